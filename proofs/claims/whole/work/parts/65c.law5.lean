/-! ===== the law's rows are sound (3) ===== -/
set_option maxRecDepth 100000 in
set_option maxHeartbeats 4000000 in
theorem snd_L20 {p : Program} {l : Launch} {e : Env} {s : State} {m : MethodId} {b L k : Nat} {xs : Nat → Int32} {below : List Frame} {meth : Method} {c : Code} {D : va_G} {dA : Nat → ClassId} {σ : Nat → Nat} {A : Nat → Prop} {Z : State → Prop} (C : em_Cx p s m #[Value.ref b] c D em_cl A 4 (em_tys dA) code "WedApartLaw") (hFok : em_Fok (em_F σ)) (hF : em_F σ A s s.heap) (hX : va_X b L xs s s.heap) (hbl : b < s.heap.size) (hbA : ¬ A b) (hσ : σ 11 = b) (hL : L < 2 ^ 31) (hkc : k ≤ 64) (Q : em_Q) : ∀ q ∈ T_L20 L xs, em_Snd p l e room_1 s m #[Value.ref b] below meth c D em_cl dA σ A 4 (cntL k) (fun _ => True) Z Q q.1 q.2 := by
  unfold T_L20
  refine List.forall_mem_cons.mpr ⟨s_aload_n C (by decide +kernel : decode code 718 = .ok (.aload_n 1, 1)) rfl rfl rfl, ?_⟩
  refine List.forall_mem_cons.mpr ⟨s_aloadX_n C (by decide +kernel : decode code 719 = .ok (.aload_n 0, 1)) rfl rfl rfl, ?_⟩
  refine List.forall_mem_cons.mpr ⟨s_iload_n C (by decide +kernel : decode code 720 = .ok (.iload_n 3, 1)) rfl rfl rfl, ?_⟩
  refine List.forall_mem_cons.mpr ⟨s_iconst C (by decide +kernel : decode code 721 = .ok (.iconst 1, 1)) rfl rfl (by decide), ?_⟩
  refine List.forall_mem_cons.mpr ⟨s_iadd C (by decide +kernel : decode code 722 = .ok (.iadd, 1)) rfl rfl, ?_⟩
  refine List.forall_mem_cons.mpr ⟨s_sld C hX hbl hbA hσ hL (by decide +kernel : decode code 723 = .ok (.iaload, 1)) rfl rfl, ?_⟩
  refine List.forall_mem_cons.mpr ⟨s_callV C hFok hF (ct_X9_again l D dA σ) ⟨rfl, rfl⟩ ew493 em_cl_X9 ew490 ew491 ew492 ew1 ⟨by decide, by decide, by decide +kernel⟩ ⟨by decide, by decide⟩ (by decide +kernel : decode code 724 = .ok (.invokevirtual 96, 3)) rfl rfl (cntL_0 hkc), ?_⟩
  refine List.forall_mem_cons.mpr ⟨s_aload_n C (by decide +kernel : decode code 727 = .ok (.aload_n 2, 1)) rfl rfl rfl, ?_⟩
  refine List.forall_mem_cons.mpr ⟨s_aloadX_n C (by decide +kernel : decode code 728 = .ok (.aload_n 0, 1)) rfl rfl rfl, ?_⟩
  refine List.forall_mem_cons.mpr ⟨s_iload_n C (by decide +kernel : decode code 729 = .ok (.iload_n 3, 1)) rfl rfl rfl, ?_⟩
  refine List.forall_mem_cons.mpr ⟨s_iconst C (by decide +kernel : decode code 730 = .ok (.iconst 1, 1)) rfl rfl (by decide), ?_⟩
  refine List.forall_mem_cons.mpr ⟨s_iadd C (by decide +kernel : decode code 731 = .ok (.iadd, 1)) rfl rfl, ?_⟩
  refine List.forall_mem_cons.mpr ⟨s_sld C hX hbl hbA hσ hL (by decide +kernel : decode code 732 = .ok (.iaload, 1)) rfl rfl, ?_⟩
  refine List.forall_mem_cons.mpr ⟨s_callPV C hFok hF (ct_X10_again l D dA σ) ⟨rfl, rfl⟩ ew964 em_cl_X10 ew961 ew962 ew963 ew6 ⟨by decide, by decide, by decide +kernel⟩ ⟨by decide, by decide⟩ (by decide +kernel : decode code 733 = .ok (.invokevirtual 99, 3)) rfl rfl (cntL_0 hkc) (by decide), ?_⟩
  refine List.forall_mem_cons.mpr ⟨s_icmpeqW C (by decide +kernel : decode code 736 = .ok (.if_icmp .eq 540, 3)) (by decide) rfl rfl (cntL_le (by decide)), ?_⟩
  refine List.forall_mem_cons.mpr ⟨s_no, ?_⟩
  refine List.forall_mem_cons.mpr ⟨s_no, ?_⟩
  exact fun _ h => absurd h List.not_mem_nil
set_option maxRecDepth 100000 in
set_option maxHeartbeats 4000000 in
theorem snd_L21 {p : Program} {l : Launch} {e : Env} {s : State} {m : MethodId} {b L k : Nat} {xs : Nat → Int32} {below : List Frame} {meth : Method} {c : Code} {D : va_G} {dA : Nat → ClassId} {σ : Nat → Nat} {A : Nat → Prop} {Z : State → Prop} (C : em_Cx p s m #[Value.ref b] c D em_cl A 4 (em_tys dA) code "WedApartLaw") (hFok : em_Fok (em_F σ)) (hF : em_F σ A s s.heap) (hX : va_X b L xs s s.heap) (hbl : b < s.heap.size) (hbA : ¬ A b) (hσ : σ 11 = b) (hL : L < 2 ^ 31) (hkc : k ≤ 64) (Q : em_Q) : ∀ q ∈ T_L21 L xs, em_Snd p l e room_1 s m #[Value.ref b] below meth c D em_cl dA σ A 4 (cntL k) (fun _ => True) Z Q q.1 q.2 := by
  unfold T_L21
  refine List.forall_mem_cons.mpr ⟨s_aload_n C (by decide +kernel : decode code 741 = .ok (.aload_n 1, 1)) rfl rfl rfl, ?_⟩
  refine List.forall_mem_cons.mpr ⟨s_callV C hFok hF (ct_X9_mind l D dA σ) ⟨rfl, rfl⟩ ew504 em_cl_X9 ew501 ew502 ew503 ew1 ⟨by decide, by decide, by decide +kernel⟩ ⟨by decide, by decide⟩ (by decide +kernel : decode code 742 = .ok (.invokevirtual 100, 3)) rfl rfl (cntL_0 hkc), ?_⟩
  refine List.forall_mem_cons.mpr ⟨s_aload_n C (by decide +kernel : decode code 745 = .ok (.aload_n 2, 1)) rfl rfl rfl, ?_⟩
  refine List.forall_mem_cons.mpr ⟨s_callPV C hFok hF (ct_X10_mind l D dA σ) ⟨rfl, rfl⟩ ew969 em_cl_X10 ew966 ew967 ew968 ew6 ⟨by decide, by decide, by decide +kernel⟩ ⟨by decide, by decide⟩ (by decide +kernel : decode code 746 = .ok (.invokevirtual 103, 3)) rfl rfl (cntL_0 hkc) (by decide), ?_⟩
  refine List.forall_mem_cons.mpr ⟨s_icmpeqW C (by decide +kernel : decode code 749 = .ok (.if_icmp .eq 527, 3)) (by decide) rfl rfl (cntL_le (by decide)), ?_⟩
  refine List.forall_mem_cons.mpr ⟨s_no, ?_⟩
  refine List.forall_mem_cons.mpr ⟨s_no, ?_⟩
  exact fun _ h => absurd h List.not_mem_nil
set_option maxRecDepth 100000 in
set_option maxHeartbeats 4000000 in
theorem snd_L22 {p : Program} {l : Launch} {e : Env} {s : State} {m : MethodId} {b L k : Nat} {xs : Nat → Int32} {below : List Frame} {meth : Method} {c : Code} {D : va_G} {dA : Nat → ClassId} {σ : Nat → Nat} {A : Nat → Prop} {Z : State → Prop} (C : em_Cx p s m #[Value.ref b] c D em_cl A 4 (em_tys dA) code "WedApartLaw") (hFok : em_Fok (em_F σ)) (hF : em_F σ A s s.heap) (hX : va_X b L xs s s.heap) (hbl : b < s.heap.size) (hbA : ¬ A b) (hσ : σ 11 = b) (hL : L < 2 ^ 31) (hkc : k ≤ 64) (Q : em_Q) : ∀ q ∈ T_L22 L xs, em_Snd p l e room_1 s m #[Value.ref b] below meth c D em_cl dA σ A 4 (cntL k) (fun _ => True) Z Q q.1 q.2 := by
  unfold T_L22
  refine List.forall_mem_cons.mpr ⟨s_aload_n C (by decide +kernel : decode code 754 = .ok (.aload_n 1, 1)) rfl rfl rfl, ?_⟩
  refine List.forall_mem_cons.mpr ⟨s_callV C hFok hF (ct_X9_stops l D dA σ) ⟨rfl, rfl⟩ ew515 em_cl_X9 ew512 ew513 ew514 ew1 ⟨by decide, by decide, by decide +kernel⟩ ⟨by decide, by decide⟩ (by decide +kernel : decode code 755 = .ok (.invokevirtual 104, 3)) rfl rfl (cntL_0 hkc), ?_⟩
  refine List.forall_mem_cons.mpr ⟨s_aload_n C (by decide +kernel : decode code 758 = .ok (.aload_n 2, 1)) rfl rfl rfl, ?_⟩
  refine List.forall_mem_cons.mpr ⟨s_callPV C hFok hF (ct_X10_stops l D dA σ) ⟨rfl, rfl⟩ ew977 em_cl_X10 ew974 ew975 ew976 ew6 ⟨by decide, by decide, by decide +kernel⟩ ⟨by decide, by decide⟩ (by decide +kernel : decode code 759 = .ok (.invokevirtual 107, 3)) rfl rfl (cntL_0 hkc) (by decide), ?_⟩
  refine List.forall_mem_cons.mpr ⟨s_icmpeqW C (by decide +kernel : decode code 762 = .ok (.if_icmp .eq 514, 3)) (by decide) rfl rfl (cntL_le (by decide)), ?_⟩
  refine List.forall_mem_cons.mpr ⟨s_no, ?_⟩
  refine List.forall_mem_cons.mpr ⟨s_no, ?_⟩
  exact fun _ h => absurd h List.not_mem_nil
set_option maxRecDepth 100000 in
set_option maxHeartbeats 4000000 in
theorem snd_L23 {p : Program} {l : Launch} {e : Env} {s : State} {m : MethodId} {b L k : Nat} {xs : Nat → Int32} {below : List Frame} {meth : Method} {c : Code} {D : va_G} {dA : Nat → ClassId} {σ : Nat → Nat} {A : Nat → Prop} {Z : State → Prop} (C : em_Cx p s m #[Value.ref b] c D em_cl A 4 (em_tys dA) code "WedApartLaw") (hFok : em_Fok (em_F σ)) (hF : em_F σ A s s.heap) (hX : va_X b L xs s s.heap) (hbl : b < s.heap.size) (hbA : ¬ A b) (hσ : σ 11 = b) (hL : L < 2 ^ 31) (hkc : k ≤ 64) (Q : em_Q) : ∀ q ∈ T_L23 L xs, em_Snd p l e room_1 s m #[Value.ref b] below meth c D em_cl dA σ A 4 (cntL k) (fun _ => True) Z Q q.1 q.2 := by
  unfold T_L23
  refine List.forall_mem_cons.mpr ⟨s_aload_n C (by decide +kernel : decode code 767 = .ok (.aload_n 1, 1)) rfl rfl rfl, ?_⟩
  refine List.forall_mem_cons.mpr ⟨s_aloadX_n C (by decide +kernel : decode code 768 = .ok (.aload_n 0, 1)) rfl rfl rfl, ?_⟩
  refine List.forall_mem_cons.mpr ⟨s_iload_n C (by decide +kernel : decode code 769 = .ok (.iload_n 3, 1)) rfl rfl rfl, ?_⟩
  refine List.forall_mem_cons.mpr ⟨s_iconst C (by decide +kernel : decode code 770 = .ok (.iconst 1, 1)) rfl rfl (by decide), ?_⟩
  refine List.forall_mem_cons.mpr ⟨s_iadd C (by decide +kernel : decode code 771 = .ok (.iadd, 1)) rfl rfl, ?_⟩
  refine List.forall_mem_cons.mpr ⟨s_sld C hX hbl hbA hσ hL (by decide +kernel : decode code 772 = .ok (.iaload, 1)) rfl rfl, ?_⟩
  refine List.forall_mem_cons.mpr ⟨s_aloadX_n C (by decide +kernel : decode code 773 = .ok (.aload_n 0, 1)) rfl rfl rfl, ?_⟩
  refine List.forall_mem_cons.mpr ⟨s_iload_n C (by decide +kernel : decode code 774 = .ok (.iload_n 3, 1)) rfl rfl rfl, ?_⟩
  refine List.forall_mem_cons.mpr ⟨s_iconst C (by decide +kernel : decode code 775 = .ok (.iconst 2, 1)) rfl rfl (by decide), ?_⟩
  refine List.forall_mem_cons.mpr ⟨s_iadd C (by decide +kernel : decode code 776 = .ok (.iadd, 1)) rfl rfl, ?_⟩
  refine List.forall_mem_cons.mpr ⟨s_sld C hX hbl hbA hσ hL (by decide +kernel : decode code 777 = .ok (.iaload, 1)) rfl rfl, ?_⟩
  refine List.forall_mem_cons.mpr ⟨s_callV C hFok hF (ct_X9_wed l D dA σ) ⟨rfl, rfl⟩ ew520 em_cl_X9 ew517 ew518 ew519 ew1 ⟨by decide, by decide, by decide +kernel⟩ ⟨by decide, by decide⟩ (by decide +kernel : decode code 778 = .ok (.invokevirtual 108, 3)) rfl rfl (cntL_0 hkc), ?_⟩
  refine List.forall_mem_cons.mpr ⟨s_aload_n C (by decide +kernel : decode code 781 = .ok (.aload_n 2, 1)) rfl rfl rfl, ?_⟩
  refine List.forall_mem_cons.mpr ⟨s_aloadX_n C (by decide +kernel : decode code 782 = .ok (.aload_n 0, 1)) rfl rfl rfl, ?_⟩
  refine List.forall_mem_cons.mpr ⟨s_iload_n C (by decide +kernel : decode code 783 = .ok (.iload_n 3, 1)) rfl rfl rfl, ?_⟩
  refine List.forall_mem_cons.mpr ⟨s_iconst C (by decide +kernel : decode code 784 = .ok (.iconst 1, 1)) rfl rfl (by decide), ?_⟩
  refine List.forall_mem_cons.mpr ⟨s_iadd C (by decide +kernel : decode code 785 = .ok (.iadd, 1)) rfl rfl, ?_⟩
  refine List.forall_mem_cons.mpr ⟨s_sld C hX hbl hbA hσ hL (by decide +kernel : decode code 786 = .ok (.iaload, 1)) rfl rfl, ?_⟩
  refine List.forall_mem_cons.mpr ⟨s_aloadX_n C (by decide +kernel : decode code 787 = .ok (.aload_n 0, 1)) rfl rfl rfl, ?_⟩
  refine List.forall_mem_cons.mpr ⟨s_iload_n C (by decide +kernel : decode code 788 = .ok (.iload_n 3, 1)) rfl rfl rfl, ?_⟩
  refine List.forall_mem_cons.mpr ⟨s_iconst C (by decide +kernel : decode code 789 = .ok (.iconst 2, 1)) rfl rfl (by decide), ?_⟩
  refine List.forall_mem_cons.mpr ⟨s_iadd C (by decide +kernel : decode code 790 = .ok (.iadd, 1)) rfl rfl, ?_⟩
  refine List.forall_mem_cons.mpr ⟨s_sld C hX hbl hbA hσ hL (by decide +kernel : decode code 791 = .ok (.iaload, 1)) rfl rfl, ?_⟩
  refine List.forall_mem_cons.mpr ⟨s_callPV C hFok hF (ct_X10_wed l D dA σ) ⟨rfl, rfl⟩ ew982 em_cl_X10 ew979 ew980 ew981 ew6 ⟨by decide, by decide, by decide +kernel⟩ ⟨by decide, by decide⟩ (by decide +kernel : decode code 792 = .ok (.invokevirtual 111, 3)) rfl rfl (cntL_0 hkc) (by decide), ?_⟩
  refine List.forall_mem_cons.mpr ⟨s_icmpeqW C (by decide +kernel : decode code 795 = .ok (.if_icmp .eq 481, 3)) (by decide) rfl rfl (cntL_le (by decide)), ?_⟩
  refine List.forall_mem_cons.mpr ⟨s_no, ?_⟩
  refine List.forall_mem_cons.mpr ⟨s_no, ?_⟩
  exact fun _ h => absurd h List.not_mem_nil
set_option maxRecDepth 100000 in
set_option maxHeartbeats 4000000 in
theorem snd_L24 {p : Program} {l : Launch} {e : Env} {s : State} {m : MethodId} {b L k : Nat} {xs : Nat → Int32} {below : List Frame} {meth : Method} {c : Code} {D : va_G} {dA : Nat → ClassId} {σ : Nat → Nat} {A : Nat → Prop} {Z : State → Prop} (C : em_Cx p s m #[Value.ref b] c D em_cl A 4 (em_tys dA) code "WedApartLaw") (hFok : em_Fok (em_F σ)) (hF : em_F σ A s s.heap) (hX : va_X b L xs s s.heap) (hbl : b < s.heap.size) (hbA : ¬ A b) (hσ : σ 11 = b) (hL : L < 2 ^ 31) (hkc : k ≤ 64) (Q : em_Q) : ∀ q ∈ T_L24 L xs, em_Snd p l e room_1 s m #[Value.ref b] below meth c D em_cl dA σ A 4 (cntL k) (fun _ => True) Z Q q.1 q.2 := by
  unfold T_L24
  refine List.forall_mem_cons.mpr ⟨s_aload_n C (by decide +kernel : decode code 800 = .ok (.aload_n 1, 1)) rfl rfl rfl, ?_⟩
  refine List.forall_mem_cons.mpr ⟨s_aloadX_n C (by decide +kernel : decode code 801 = .ok (.aload_n 0, 1)) rfl rfl rfl, ?_⟩
  refine List.forall_mem_cons.mpr ⟨s_iload_n C (by decide +kernel : decode code 802 = .ok (.iload_n 3, 1)) rfl rfl rfl, ?_⟩
  refine List.forall_mem_cons.mpr ⟨s_iconst C (by decide +kernel : decode code 803 = .ok (.iconst 1, 1)) rfl rfl (by decide), ?_⟩
  refine List.forall_mem_cons.mpr ⟨s_iadd C (by decide +kernel : decode code 804 = .ok (.iadd, 1)) rfl rfl, ?_⟩
  refine List.forall_mem_cons.mpr ⟨s_sld C hX hbl hbA hσ hL (by decide +kernel : decode code 805 = .ok (.iaload, 1)) rfl rfl, ?_⟩
  refine List.forall_mem_cons.mpr ⟨s_aloadX_n C (by decide +kernel : decode code 806 = .ok (.aload_n 0, 1)) rfl rfl rfl, ?_⟩
  refine List.forall_mem_cons.mpr ⟨s_iload_n C (by decide +kernel : decode code 807 = .ok (.iload_n 3, 1)) rfl rfl rfl, ?_⟩
  refine List.forall_mem_cons.mpr ⟨s_iconst C (by decide +kernel : decode code 808 = .ok (.iconst 2, 1)) rfl rfl (by decide), ?_⟩
  refine List.forall_mem_cons.mpr ⟨s_iadd C (by decide +kernel : decode code 809 = .ok (.iadd, 1)) rfl rfl, ?_⟩
  refine List.forall_mem_cons.mpr ⟨s_sld C hX hbl hbA hσ hL (by decide +kernel : decode code 810 = .ok (.iaload, 1)) rfl rfl, ?_⟩
  refine List.forall_mem_cons.mpr ⟨s_aloadX_n C (by decide +kernel : decode code 811 = .ok (.aload_n 0, 1)) rfl rfl rfl, ?_⟩
  refine List.forall_mem_cons.mpr ⟨s_iload_n C (by decide +kernel : decode code 812 = .ok (.iload_n 3, 1)) rfl rfl rfl, ?_⟩
  refine List.forall_mem_cons.mpr ⟨s_iconst C (by decide +kernel : decode code 813 = .ok (.iconst 3, 1)) rfl rfl (by decide), ?_⟩
  refine List.forall_mem_cons.mpr ⟨s_iadd C (by decide +kernel : decode code 814 = .ok (.iadd, 1)) rfl rfl, ?_⟩
  refine List.forall_mem_cons.mpr ⟨s_sld C hX hbl hbA hσ hL (by decide +kernel : decode code 815 = .ok (.iaload, 1)) rfl rfl, ?_⟩
  refine List.forall_mem_cons.mpr ⟨s_aloadX_n C (by decide +kernel : decode code 816 = .ok (.aload_n 0, 1)) rfl rfl rfl, ?_⟩
  refine List.forall_mem_cons.mpr ⟨s_iload_n C (by decide +kernel : decode code 817 = .ok (.iload_n 3, 1)) rfl rfl rfl, ?_⟩
  refine List.forall_mem_cons.mpr ⟨s_iconst C (by decide +kernel : decode code 818 = .ok (.iconst 4, 1)) rfl rfl (by decide), ?_⟩
  refine List.forall_mem_cons.mpr ⟨s_iadd C (by decide +kernel : decode code 819 = .ok (.iadd, 1)) rfl rfl, ?_⟩
  refine List.forall_mem_cons.mpr ⟨s_sld C hX hbl hbA hσ hL (by decide +kernel : decode code 820 = .ok (.iaload, 1)) rfl rfl, ?_⟩
  refine List.forall_mem_cons.mpr ⟨s_callV C hFok hF (ct_X9_dinners l D dA σ) ⟨rfl, rfl⟩ ew547 em_cl_X9 ew544 ew545 ew546 ew1 ⟨by decide, by decide, by decide +kernel⟩ ⟨by decide, by decide⟩ (by decide +kernel : decode code 821 = .ok (.invokevirtual 112, 3)) rfl rfl (cntL_0 hkc), ?_⟩
  refine List.forall_mem_cons.mpr ⟨s_aload_n C (by decide +kernel : decode code 824 = .ok (.aload_n 2, 1)) rfl rfl rfl, ?_⟩
  refine List.forall_mem_cons.mpr ⟨s_aloadX_n C (by decide +kernel : decode code 825 = .ok (.aload_n 0, 1)) rfl rfl rfl, ?_⟩
  refine List.forall_mem_cons.mpr ⟨s_iload_n C (by decide +kernel : decode code 826 = .ok (.iload_n 3, 1)) rfl rfl rfl, ?_⟩
  refine List.forall_mem_cons.mpr ⟨s_iconst C (by decide +kernel : decode code 827 = .ok (.iconst 1, 1)) rfl rfl (by decide), ?_⟩
  refine List.forall_mem_cons.mpr ⟨s_iadd C (by decide +kernel : decode code 828 = .ok (.iadd, 1)) rfl rfl, ?_⟩
  refine List.forall_mem_cons.mpr ⟨s_sld C hX hbl hbA hσ hL (by decide +kernel : decode code 829 = .ok (.iaload, 1)) rfl rfl, ?_⟩
  refine List.forall_mem_cons.mpr ⟨s_aloadX_n C (by decide +kernel : decode code 830 = .ok (.aload_n 0, 1)) rfl rfl rfl, ?_⟩
  refine List.forall_mem_cons.mpr ⟨s_iload_n C (by decide +kernel : decode code 831 = .ok (.iload_n 3, 1)) rfl rfl rfl, ?_⟩
  refine List.forall_mem_cons.mpr ⟨s_iconst C (by decide +kernel : decode code 832 = .ok (.iconst 2, 1)) rfl rfl (by decide), ?_⟩
  refine List.forall_mem_cons.mpr ⟨s_iadd C (by decide +kernel : decode code 833 = .ok (.iadd, 1)) rfl rfl, ?_⟩
  refine List.forall_mem_cons.mpr ⟨s_sld C hX hbl hbA hσ hL (by decide +kernel : decode code 834 = .ok (.iaload, 1)) rfl rfl, ?_⟩
  refine List.forall_mem_cons.mpr ⟨s_aloadX_n C (by decide +kernel : decode code 835 = .ok (.aload_n 0, 1)) rfl rfl rfl, ?_⟩
  refine List.forall_mem_cons.mpr ⟨s_iload_n C (by decide +kernel : decode code 836 = .ok (.iload_n 3, 1)) rfl rfl rfl, ?_⟩
  refine List.forall_mem_cons.mpr ⟨s_iconst C (by decide +kernel : decode code 837 = .ok (.iconst 3, 1)) rfl rfl (by decide), ?_⟩
  refine List.forall_mem_cons.mpr ⟨s_iadd C (by decide +kernel : decode code 838 = .ok (.iadd, 1)) rfl rfl, ?_⟩
  refine List.forall_mem_cons.mpr ⟨s_sld C hX hbl hbA hσ hL (by decide +kernel : decode code 839 = .ok (.iaload, 1)) rfl rfl, ?_⟩
  refine List.forall_mem_cons.mpr ⟨s_aloadX_n C (by decide +kernel : decode code 840 = .ok (.aload_n 0, 1)) rfl rfl rfl, ?_⟩
  refine List.forall_mem_cons.mpr ⟨s_iload_n C (by decide +kernel : decode code 841 = .ok (.iload_n 3, 1)) rfl rfl rfl, ?_⟩
  refine List.forall_mem_cons.mpr ⟨s_iconst C (by decide +kernel : decode code 842 = .ok (.iconst 4, 1)) rfl rfl (by decide), ?_⟩
  refine List.forall_mem_cons.mpr ⟨s_iadd C (by decide +kernel : decode code 843 = .ok (.iadd, 1)) rfl rfl, ?_⟩
  refine List.forall_mem_cons.mpr ⟨s_sld C hX hbl hbA hσ hL (by decide +kernel : decode code 844 = .ok (.iaload, 1)) rfl rfl, ?_⟩
  refine List.forall_mem_cons.mpr ⟨s_callPV C hFok hF (ct_X10_dinners l D dA σ) ⟨rfl, rfl⟩ ew991 em_cl_X10 ew988 ew989 ew990 ew6 ⟨by decide, by decide, by decide +kernel⟩ ⟨by decide, by decide⟩ (by decide +kernel : decode code 845 = .ok (.invokevirtual 116, 3)) rfl rfl (cntL_0 hkc) (by decide), ?_⟩
  refine List.forall_mem_cons.mpr ⟨s_icmpeqW C (by decide +kernel : decode code 848 = .ok (.if_icmp .eq 428, 3)) (by decide) rfl rfl (cntL_le (by decide)), ?_⟩
  refine List.forall_mem_cons.mpr ⟨s_no, ?_⟩
  refine List.forall_mem_cons.mpr ⟨s_no, ?_⟩
  exact fun _ h => absurd h List.not_mem_nil
set_option maxRecDepth 100000 in
set_option maxHeartbeats 4000000 in
theorem snd_L25 {p : Program} {l : Launch} {e : Env} {s : State} {m : MethodId} {b L k : Nat} {xs : Nat → Int32} {below : List Frame} {meth : Method} {c : Code} {D : va_G} {dA : Nat → ClassId} {σ : Nat → Nat} {A : Nat → Prop} {Z : State → Prop} (C : em_Cx p s m #[Value.ref b] c D em_cl A 4 (em_tys dA) code "WedApartLaw") (hFok : em_Fok (em_F σ)) (hF : em_F σ A s s.heap) (hX : va_X b L xs s s.heap) (hbl : b < s.heap.size) (hbA : ¬ A b) (hσ : σ 11 = b) (hL : L < 2 ^ 31) (hkc : k ≤ 64) (Q : em_Q) : ∀ q ∈ T_L25 L xs, em_Snd p l e room_1 s m #[Value.ref b] below meth c D em_cl dA σ A 4 (cntL k) (fun _ => True) Z Q q.1 q.2 := by
  unfold T_L25
  refine List.forall_mem_cons.mpr ⟨s_aload_n C (by decide +kernel : decode code 853 = .ok (.aload_n 1, 1)) rfl rfl rfl, ?_⟩
  refine List.forall_mem_cons.mpr ⟨s_aloadX_n C (by decide +kernel : decode code 854 = .ok (.aload_n 0, 1)) rfl rfl rfl, ?_⟩
  refine List.forall_mem_cons.mpr ⟨s_iload_n C (by decide +kernel : decode code 855 = .ok (.iload_n 3, 1)) rfl rfl rfl, ?_⟩
  refine List.forall_mem_cons.mpr ⟨s_iconst C (by decide +kernel : decode code 856 = .ok (.iconst 1, 1)) rfl rfl (by decide), ?_⟩
  refine List.forall_mem_cons.mpr ⟨s_iadd C (by decide +kernel : decode code 857 = .ok (.iadd, 1)) rfl rfl, ?_⟩
  refine List.forall_mem_cons.mpr ⟨s_sld C hX hbl hbA hσ hL (by decide +kernel : decode code 858 = .ok (.iaload, 1)) rfl rfl, ?_⟩
  refine List.forall_mem_cons.mpr ⟨s_aloadX_n C (by decide +kernel : decode code 859 = .ok (.aload_n 0, 1)) rfl rfl rfl, ?_⟩
  refine List.forall_mem_cons.mpr ⟨s_iload_n C (by decide +kernel : decode code 860 = .ok (.iload_n 3, 1)) rfl rfl rfl, ?_⟩
  refine List.forall_mem_cons.mpr ⟨s_iconst C (by decide +kernel : decode code 861 = .ok (.iconst 2, 1)) rfl rfl (by decide), ?_⟩
  refine List.forall_mem_cons.mpr ⟨s_iadd C (by decide +kernel : decode code 862 = .ok (.iadd, 1)) rfl rfl, ?_⟩
  refine List.forall_mem_cons.mpr ⟨s_sld C hX hbl hbA hσ hL (by decide +kernel : decode code 863 = .ok (.iaload, 1)) rfl rfl, ?_⟩
  refine List.forall_mem_cons.mpr ⟨s_callV C hFok hF (ct_X9_feigned l D dA σ) ⟨rfl, rfl⟩ ew573 em_cl_X9 ew570 ew571 ew572 ew1 ⟨by decide, by decide, by decide +kernel⟩ ⟨by decide, by decide⟩ (by decide +kernel : decode code 864 = .ok (.invokevirtual 117, 3)) rfl rfl (cntL_0 hkc), ?_⟩
  refine List.forall_mem_cons.mpr ⟨s_aload_n C (by decide +kernel : decode code 867 = .ok (.aload_n 2, 1)) rfl rfl rfl, ?_⟩
  refine List.forall_mem_cons.mpr ⟨s_aloadX_n C (by decide +kernel : decode code 868 = .ok (.aload_n 0, 1)) rfl rfl rfl, ?_⟩
  refine List.forall_mem_cons.mpr ⟨s_iload_n C (by decide +kernel : decode code 869 = .ok (.iload_n 3, 1)) rfl rfl rfl, ?_⟩
  refine List.forall_mem_cons.mpr ⟨s_iconst C (by decide +kernel : decode code 870 = .ok (.iconst 1, 1)) rfl rfl (by decide), ?_⟩
  refine List.forall_mem_cons.mpr ⟨s_iadd C (by decide +kernel : decode code 871 = .ok (.iadd, 1)) rfl rfl, ?_⟩
  refine List.forall_mem_cons.mpr ⟨s_sld C hX hbl hbA hσ hL (by decide +kernel : decode code 872 = .ok (.iaload, 1)) rfl rfl, ?_⟩
  refine List.forall_mem_cons.mpr ⟨s_aloadX_n C (by decide +kernel : decode code 873 = .ok (.aload_n 0, 1)) rfl rfl rfl, ?_⟩
  refine List.forall_mem_cons.mpr ⟨s_iload_n C (by decide +kernel : decode code 874 = .ok (.iload_n 3, 1)) rfl rfl rfl, ?_⟩
  refine List.forall_mem_cons.mpr ⟨s_iconst C (by decide +kernel : decode code 875 = .ok (.iconst 2, 1)) rfl rfl (by decide), ?_⟩
  refine List.forall_mem_cons.mpr ⟨s_iadd C (by decide +kernel : decode code 876 = .ok (.iadd, 1)) rfl rfl, ?_⟩
  refine List.forall_mem_cons.mpr ⟨s_sld C hX hbl hbA hσ hL (by decide +kernel : decode code 877 = .ok (.iaload, 1)) rfl rfl, ?_⟩
  refine List.forall_mem_cons.mpr ⟨s_callPV C hFok hF (ct_X10_feigned l D dA σ) ⟨rfl, rfl⟩ ew1000 em_cl_X10 ew997 ew998 ew999 ew6 ⟨by decide, by decide, by decide +kernel⟩ ⟨by decide, by decide⟩ (by decide +kernel : decode code 878 = .ok (.invokevirtual 120, 3)) rfl rfl (cntL_0 hkc) (by decide), ?_⟩
  refine List.forall_mem_cons.mpr ⟨s_icmpeqW C (by decide +kernel : decode code 881 = .ok (.if_icmp .eq 395, 3)) (by decide) rfl rfl (cntL_le (by decide)), ?_⟩
  refine List.forall_mem_cons.mpr ⟨s_no, ?_⟩
  refine List.forall_mem_cons.mpr ⟨s_no, ?_⟩
  exact fun _ h => absurd h List.not_mem_nil
set_option maxRecDepth 100000 in
set_option maxHeartbeats 4000000 in
theorem snd_L26 {p : Program} {l : Launch} {e : Env} {s : State} {m : MethodId} {b L k : Nat} {xs : Nat → Int32} {below : List Frame} {meth : Method} {c : Code} {D : va_G} {dA : Nat → ClassId} {σ : Nat → Nat} {A : Nat → Prop} {Z : State → Prop} (C : em_Cx p s m #[Value.ref b] c D em_cl A 4 (em_tys dA) code "WedApartLaw") (hFok : em_Fok (em_F σ)) (hF : em_F σ A s s.heap) (hX : va_X b L xs s s.heap) (hbl : b < s.heap.size) (hbA : ¬ A b) (hσ : σ 11 = b) (hL : L < 2 ^ 31) (hkc : k ≤ 64) (Q : em_Q) : ∀ q ∈ T_L26 L xs, em_Snd p l e room_1 s m #[Value.ref b] below meth c D em_cl dA σ A 4 (cntL k) (fun _ => True) Z Q q.1 q.2 := by
  unfold T_L26
  refine List.forall_mem_cons.mpr ⟨s_aload_n C (by decide +kernel : decode code 886 = .ok (.aload_n 1, 1)) rfl rfl rfl, ?_⟩
  refine List.forall_mem_cons.mpr ⟨s_aloadX_n C (by decide +kernel : decode code 887 = .ok (.aload_n 0, 1)) rfl rfl rfl, ?_⟩
  refine List.forall_mem_cons.mpr ⟨s_iload_n C (by decide +kernel : decode code 888 = .ok (.iload_n 3, 1)) rfl rfl rfl, ?_⟩
  refine List.forall_mem_cons.mpr ⟨s_iconst C (by decide +kernel : decode code 889 = .ok (.iconst 1, 1)) rfl rfl (by decide), ?_⟩
  refine List.forall_mem_cons.mpr ⟨s_iadd C (by decide +kernel : decode code 890 = .ok (.iadd, 1)) rfl rfl, ?_⟩
  refine List.forall_mem_cons.mpr ⟨s_sld C hX hbl hbA hσ hL (by decide +kernel : decode code 891 = .ok (.iaload, 1)) rfl rfl, ?_⟩
  refine List.forall_mem_cons.mpr ⟨s_aloadX_n C (by decide +kernel : decode code 892 = .ok (.aload_n 0, 1)) rfl rfl rfl, ?_⟩
  refine List.forall_mem_cons.mpr ⟨s_iload_n C (by decide +kernel : decode code 893 = .ok (.iload_n 3, 1)) rfl rfl rfl, ?_⟩
  refine List.forall_mem_cons.mpr ⟨s_iconst C (by decide +kernel : decode code 894 = .ok (.iconst 2, 1)) rfl rfl (by decide), ?_⟩
  refine List.forall_mem_cons.mpr ⟨s_iadd C (by decide +kernel : decode code 895 = .ok (.iadd, 1)) rfl rfl, ?_⟩
  refine List.forall_mem_cons.mpr ⟨s_sld C hX hbl hbA hσ hL (by decide +kernel : decode code 896 = .ok (.iaload, 1)) rfl rfl, ?_⟩
  refine List.forall_mem_cons.mpr ⟨s_callV C hFok hF (ct_X9_seen l D dA σ) ⟨rfl, rfl⟩ ew578 em_cl_X9 ew575 ew576 ew577 ew1 ⟨by decide, by decide, by decide +kernel⟩ ⟨by decide, by decide⟩ (by decide +kernel : decode code 897 = .ok (.invokevirtual 121, 3)) rfl rfl (cntL_0 hkc), ?_⟩
  refine List.forall_mem_cons.mpr ⟨s_aload_n C (by decide +kernel : decode code 900 = .ok (.aload_n 2, 1)) rfl rfl rfl, ?_⟩
  refine List.forall_mem_cons.mpr ⟨s_aloadX_n C (by decide +kernel : decode code 901 = .ok (.aload_n 0, 1)) rfl rfl rfl, ?_⟩
  refine List.forall_mem_cons.mpr ⟨s_iload_n C (by decide +kernel : decode code 902 = .ok (.iload_n 3, 1)) rfl rfl rfl, ?_⟩
  refine List.forall_mem_cons.mpr ⟨s_iconst C (by decide +kernel : decode code 903 = .ok (.iconst 1, 1)) rfl rfl (by decide), ?_⟩
  refine List.forall_mem_cons.mpr ⟨s_iadd C (by decide +kernel : decode code 904 = .ok (.iadd, 1)) rfl rfl, ?_⟩
  refine List.forall_mem_cons.mpr ⟨s_sld C hX hbl hbA hσ hL (by decide +kernel : decode code 905 = .ok (.iaload, 1)) rfl rfl, ?_⟩
  refine List.forall_mem_cons.mpr ⟨s_aloadX_n C (by decide +kernel : decode code 906 = .ok (.aload_n 0, 1)) rfl rfl rfl, ?_⟩
  refine List.forall_mem_cons.mpr ⟨s_iload_n C (by decide +kernel : decode code 907 = .ok (.iload_n 3, 1)) rfl rfl rfl, ?_⟩
  refine List.forall_mem_cons.mpr ⟨s_iconst C (by decide +kernel : decode code 908 = .ok (.iconst 2, 1)) rfl rfl (by decide), ?_⟩
  refine List.forall_mem_cons.mpr ⟨s_iadd C (by decide +kernel : decode code 909 = .ok (.iadd, 1)) rfl rfl, ?_⟩
  refine List.forall_mem_cons.mpr ⟨s_sld C hX hbl hbA hσ hL (by decide +kernel : decode code 910 = .ok (.iaload, 1)) rfl rfl, ?_⟩
  refine List.forall_mem_cons.mpr ⟨s_callPV C hFok hF (ct_X10_seen l D dA σ) ⟨rfl, rfl⟩ ew1004 em_cl_X10 ew1001 ew1002 ew1003 ew6 ⟨by decide, by decide, by decide +kernel⟩ ⟨by decide, by decide⟩ (by decide +kernel : decode code 911 = .ok (.invokevirtual 124, 3)) rfl rfl (cntL_0 hkc) (by decide), ?_⟩
  refine List.forall_mem_cons.mpr ⟨s_icmpeqW C (by decide +kernel : decode code 914 = .ok (.if_icmp .eq 362, 3)) (by decide) rfl rfl (cntL_le (by decide)), ?_⟩
  refine List.forall_mem_cons.mpr ⟨s_no, ?_⟩
  refine List.forall_mem_cons.mpr ⟨s_no, ?_⟩
  exact fun _ h => absurd h List.not_mem_nil
set_option maxRecDepth 100000 in
set_option maxHeartbeats 4000000 in
theorem snd_L27 {p : Program} {l : Launch} {e : Env} {s : State} {m : MethodId} {b L k : Nat} {xs : Nat → Int32} {below : List Frame} {meth : Method} {c : Code} {D : va_G} {dA : Nat → ClassId} {σ : Nat → Nat} {A : Nat → Prop} {Z : State → Prop} (C : em_Cx p s m #[Value.ref b] c D em_cl A 4 (em_tys dA) code "WedApartLaw") (hFok : em_Fok (em_F σ)) (hF : em_F σ A s s.heap) (hX : va_X b L xs s s.heap) (hbl : b < s.heap.size) (hbA : ¬ A b) (hσ : σ 11 = b) (hL : L < 2 ^ 31) (hkc : k ≤ 64) (Q : em_Q) : ∀ q ∈ T_L27 L xs, em_Snd p l e room_1 s m #[Value.ref b] below meth c D em_cl dA σ A 4 (cntL k) (fun _ => True) Z Q q.1 q.2 := by
  unfold T_L27
  refine List.forall_mem_cons.mpr ⟨s_aload_n C (by decide +kernel : decode code 919 = .ok (.aload_n 1, 1)) rfl rfl rfl, ?_⟩
  refine List.forall_mem_cons.mpr ⟨s_aloadX_n C (by decide +kernel : decode code 920 = .ok (.aload_n 0, 1)) rfl rfl rfl, ?_⟩
  refine List.forall_mem_cons.mpr ⟨s_iload_n C (by decide +kernel : decode code 921 = .ok (.iload_n 3, 1)) rfl rfl rfl, ?_⟩
  refine List.forall_mem_cons.mpr ⟨s_iconst C (by decide +kernel : decode code 922 = .ok (.iconst 1, 1)) rfl rfl (by decide), ?_⟩
  refine List.forall_mem_cons.mpr ⟨s_iadd C (by decide +kernel : decode code 923 = .ok (.iadd, 1)) rfl rfl, ?_⟩
  refine List.forall_mem_cons.mpr ⟨s_sld C hX hbl hbA hσ hL (by decide +kernel : decode code 924 = .ok (.iaload, 1)) rfl rfl, ?_⟩
  refine List.forall_mem_cons.mpr ⟨s_callV C hFok hF (ct_X9_swayed l D dA σ) ⟨rfl, rfl⟩ ew583 em_cl_X9 ew580 ew581 ew582 ew1 ⟨by decide, by decide, by decide +kernel⟩ ⟨by decide, by decide⟩ (by decide +kernel : decode code 925 = .ok (.invokevirtual 125, 3)) rfl rfl (cntL_0 hkc), ?_⟩
  refine List.forall_mem_cons.mpr ⟨s_aload_n C (by decide +kernel : decode code 928 = .ok (.aload_n 2, 1)) rfl rfl rfl, ?_⟩
  refine List.forall_mem_cons.mpr ⟨s_aloadX_n C (by decide +kernel : decode code 929 = .ok (.aload_n 0, 1)) rfl rfl rfl, ?_⟩
  refine List.forall_mem_cons.mpr ⟨s_iload_n C (by decide +kernel : decode code 930 = .ok (.iload_n 3, 1)) rfl rfl rfl, ?_⟩
  refine List.forall_mem_cons.mpr ⟨s_iconst C (by decide +kernel : decode code 931 = .ok (.iconst 1, 1)) rfl rfl (by decide), ?_⟩
  refine List.forall_mem_cons.mpr ⟨s_iadd C (by decide +kernel : decode code 932 = .ok (.iadd, 1)) rfl rfl, ?_⟩
  refine List.forall_mem_cons.mpr ⟨s_sld C hX hbl hbA hσ hL (by decide +kernel : decode code 933 = .ok (.iaload, 1)) rfl rfl, ?_⟩
  refine List.forall_mem_cons.mpr ⟨s_callPV C hFok hF (ct_X10_swayed l D dA σ) ⟨rfl, rfl⟩ ew1008 em_cl_X10 ew1005 ew1006 ew1007 ew6 ⟨by decide, by decide, by decide +kernel⟩ ⟨by decide, by decide⟩ (by decide +kernel : decode code 934 = .ok (.invokevirtual 128, 3)) rfl rfl (cntL_0 hkc) (by decide), ?_⟩
  refine List.forall_mem_cons.mpr ⟨s_icmpeqW C (by decide +kernel : decode code 937 = .ok (.if_icmp .eq 339, 3)) (by decide) rfl rfl (cntL_le (by decide)), ?_⟩
  refine List.forall_mem_cons.mpr ⟨s_no, ?_⟩
  refine List.forall_mem_cons.mpr ⟨s_no, ?_⟩
  exact fun _ h => absurd h List.not_mem_nil
set_option maxRecDepth 100000 in
set_option maxHeartbeats 4000000 in
theorem snd_L28 {p : Program} {l : Launch} {e : Env} {s : State} {m : MethodId} {b L k : Nat} {xs : Nat → Int32} {below : List Frame} {meth : Method} {c : Code} {D : va_G} {dA : Nat → ClassId} {σ : Nat → Nat} {A : Nat → Prop} {Z : State → Prop} (C : em_Cx p s m #[Value.ref b] c D em_cl A 4 (em_tys dA) code "WedApartLaw") (hFok : em_Fok (em_F σ)) (hF : em_F σ A s s.heap) (hX : va_X b L xs s s.heap) (hbl : b < s.heap.size) (hbA : ¬ A b) (hσ : σ 11 = b) (hL : L < 2 ^ 31) (hkc : k ≤ 64) (Q : em_Q) : ∀ q ∈ T_L28 L xs, em_Snd p l e room_1 s m #[Value.ref b] below meth c D em_cl dA σ A 4 (cntL k) (fun _ => True) Z Q q.1 q.2 := by
  unfold T_L28
  refine List.forall_mem_cons.mpr ⟨s_aload_n C (by decide +kernel : decode code 942 = .ok (.aload_n 1, 1)) rfl rfl rfl, ?_⟩
  refine List.forall_mem_cons.mpr ⟨s_aloadX_n C (by decide +kernel : decode code 943 = .ok (.aload_n 0, 1)) rfl rfl rfl, ?_⟩
  refine List.forall_mem_cons.mpr ⟨s_iload_n C (by decide +kernel : decode code 944 = .ok (.iload_n 3, 1)) rfl rfl rfl, ?_⟩
  refine List.forall_mem_cons.mpr ⟨s_iconst C (by decide +kernel : decode code 945 = .ok (.iconst 1, 1)) rfl rfl (by decide), ?_⟩
  refine List.forall_mem_cons.mpr ⟨s_iadd C (by decide +kernel : decode code 946 = .ok (.iadd, 1)) rfl rfl, ?_⟩
  refine List.forall_mem_cons.mpr ⟨s_sld C hX hbl hbA hσ hL (by decide +kernel : decode code 947 = .ok (.iaload, 1)) rfl rfl, ?_⟩
  refine List.forall_mem_cons.mpr ⟨s_callV C hFok hF (ct_X9_seats l D dA σ) ⟨rfl, rfl⟩ ew587 em_cl_X9 ew584 ew585 ew586 ew1 ⟨by decide, by decide, by decide +kernel⟩ ⟨by decide, by decide⟩ (by decide +kernel : decode code 948 = .ok (.invokevirtual 129, 3)) rfl rfl (cntL_0 hkc), ?_⟩
  refine List.forall_mem_cons.mpr ⟨s_aload_n C (by decide +kernel : decode code 951 = .ok (.aload_n 2, 1)) rfl rfl rfl, ?_⟩
  refine List.forall_mem_cons.mpr ⟨s_aloadX_n C (by decide +kernel : decode code 952 = .ok (.aload_n 0, 1)) rfl rfl rfl, ?_⟩
  refine List.forall_mem_cons.mpr ⟨s_iload_n C (by decide +kernel : decode code 953 = .ok (.iload_n 3, 1)) rfl rfl rfl, ?_⟩
  refine List.forall_mem_cons.mpr ⟨s_iconst C (by decide +kernel : decode code 954 = .ok (.iconst 1, 1)) rfl rfl (by decide), ?_⟩
  refine List.forall_mem_cons.mpr ⟨s_iadd C (by decide +kernel : decode code 955 = .ok (.iadd, 1)) rfl rfl, ?_⟩
  refine List.forall_mem_cons.mpr ⟨s_sld C hX hbl hbA hσ hL (by decide +kernel : decode code 956 = .ok (.iaload, 1)) rfl rfl, ?_⟩
  refine List.forall_mem_cons.mpr ⟨s_callPV C hFok hF (ct_X10_seats l D dA σ) ⟨rfl, rfl⟩ ew1012 em_cl_X10 ew1009 ew1010 ew1011 ew6 ⟨by decide, by decide, by decide +kernel⟩ ⟨by decide, by decide⟩ (by decide +kernel : decode code 957 = .ok (.invokevirtual 132, 3)) rfl rfl (cntL_0 hkc) (by decide), ?_⟩
  refine List.forall_mem_cons.mpr ⟨s_icmpeqW C (by decide +kernel : decode code 960 = .ok (.if_icmp .eq 316, 3)) (by decide) rfl rfl (cntL_le (by decide)), ?_⟩
  refine List.forall_mem_cons.mpr ⟨s_no, ?_⟩
  refine List.forall_mem_cons.mpr ⟨s_no, ?_⟩
  exact fun _ h => absurd h List.not_mem_nil
set_option maxRecDepth 100000 in
set_option maxHeartbeats 4000000 in
theorem snd_L29 {p : Program} {l : Launch} {e : Env} {s : State} {m : MethodId} {b L k : Nat} {xs : Nat → Int32} {below : List Frame} {meth : Method} {c : Code} {D : va_G} {dA : Nat → ClassId} {σ : Nat → Nat} {A : Nat → Prop} {Z : State → Prop} (C : em_Cx p s m #[Value.ref b] c D em_cl A 4 (em_tys dA) code "WedApartLaw") (hFok : em_Fok (em_F σ)) (hF : em_F σ A s s.heap) (hX : va_X b L xs s s.heap) (hbl : b < s.heap.size) (hbA : ¬ A b) (hσ : σ 11 = b) (hL : L < 2 ^ 31) (hkc : k ≤ 64) (Q : em_Q) : ∀ q ∈ T_L29 L xs, em_Snd p l e room_1 s m #[Value.ref b] below meth c D em_cl dA σ A 4 (cntL k) (fun _ => True) Z Q q.1 q.2 := by
  unfold T_L29
  refine List.forall_mem_cons.mpr ⟨s_aload_n C (by decide +kernel : decode code 965 = .ok (.aload_n 1, 1)) rfl rfl rfl, ?_⟩
  refine List.forall_mem_cons.mpr ⟨s_aloadX_n C (by decide +kernel : decode code 966 = .ok (.aload_n 0, 1)) rfl rfl rfl, ?_⟩
  refine List.forall_mem_cons.mpr ⟨s_iload_n C (by decide +kernel : decode code 967 = .ok (.iload_n 3, 1)) rfl rfl rfl, ?_⟩
  refine List.forall_mem_cons.mpr ⟨s_iconst C (by decide +kernel : decode code 968 = .ok (.iconst 1, 1)) rfl rfl (by decide), ?_⟩
  refine List.forall_mem_cons.mpr ⟨s_iadd C (by decide +kernel : decode code 969 = .ok (.iadd, 1)) rfl rfl, ?_⟩
  refine List.forall_mem_cons.mpr ⟨s_sld C hX hbl hbA hσ hL (by decide +kernel : decode code 970 = .ok (.iaload, 1)) rfl rfl, ?_⟩
  refine List.forall_mem_cons.mpr ⟨s_aloadX_n C (by decide +kernel : decode code 971 = .ok (.aload_n 0, 1)) rfl rfl rfl, ?_⟩
  refine List.forall_mem_cons.mpr ⟨s_iload_n C (by decide +kernel : decode code 972 = .ok (.iload_n 3, 1)) rfl rfl rfl, ?_⟩
  refine List.forall_mem_cons.mpr ⟨s_iconst C (by decide +kernel : decode code 973 = .ok (.iconst 2, 1)) rfl rfl (by decide), ?_⟩
  refine List.forall_mem_cons.mpr ⟨s_iadd C (by decide +kernel : decode code 974 = .ok (.iadd, 1)) rfl rfl, ?_⟩
  refine List.forall_mem_cons.mpr ⟨s_sld C hX hbl hbA hσ hL (by decide +kernel : decode code 975 = .ok (.iaload, 1)) rfl rfl, ?_⟩
  refine List.forall_mem_cons.mpr ⟨s_ifeqW C (by decide +kernel : decode code 976 = .ok (.ifCond .eq 7, 3)) (by decide) rfl rfl (cntL_le (by decide)), ?_⟩
  refine List.forall_mem_cons.mpr ⟨s_iconst C (by decide +kernel : decode code 979 = .ok (.iconst 1, 1)) rfl rfl (by decide), ?_⟩
  refine List.forall_mem_cons.mpr ⟨s_goto C (by decide +kernel : decode code 980 = .ok (.goto 4, 3)) (by decide) rfl, ?_⟩
  refine List.forall_mem_cons.mpr ⟨s_iconst C (by decide +kernel : decode code 983 = .ok (.iconst 0, 1)) rfl rfl (by decide), ?_⟩
  refine List.forall_mem_cons.mpr ⟨s_callV C hFok hF (ct_X9_couple l D dA σ) ⟨rfl, rfl⟩ ew607 em_cl_X9 ew604 ew605 ew606 ew1 ⟨by decide, by decide, by decide +kernel⟩ ⟨by decide, by decide⟩ (by decide +kernel : decode code 984 = .ok (.invokevirtual 133, 3)) rfl rfl (cntL_0 hkc), ?_⟩
  refine List.forall_mem_cons.mpr ⟨s_aload_n C (by decide +kernel : decode code 987 = .ok (.aload_n 2, 1)) rfl rfl rfl, ?_⟩
  refine List.forall_mem_cons.mpr ⟨s_aloadX_n C (by decide +kernel : decode code 988 = .ok (.aload_n 0, 1)) rfl rfl rfl, ?_⟩
  refine List.forall_mem_cons.mpr ⟨s_iload_n C (by decide +kernel : decode code 989 = .ok (.iload_n 3, 1)) rfl rfl rfl, ?_⟩
  refine List.forall_mem_cons.mpr ⟨s_iconst C (by decide +kernel : decode code 990 = .ok (.iconst 1, 1)) rfl rfl (by decide), ?_⟩
  refine List.forall_mem_cons.mpr ⟨s_iadd C (by decide +kernel : decode code 991 = .ok (.iadd, 1)) rfl rfl, ?_⟩
  refine List.forall_mem_cons.mpr ⟨s_sld C hX hbl hbA hσ hL (by decide +kernel : decode code 992 = .ok (.iaload, 1)) rfl rfl, ?_⟩
  refine List.forall_mem_cons.mpr ⟨s_aloadX_n C (by decide +kernel : decode code 993 = .ok (.aload_n 0, 1)) rfl rfl rfl, ?_⟩
  refine List.forall_mem_cons.mpr ⟨s_iload_n C (by decide +kernel : decode code 994 = .ok (.iload_n 3, 1)) rfl rfl rfl, ?_⟩
  refine List.forall_mem_cons.mpr ⟨s_iconst C (by decide +kernel : decode code 995 = .ok (.iconst 2, 1)) rfl rfl (by decide), ?_⟩
  refine List.forall_mem_cons.mpr ⟨s_iadd C (by decide +kernel : decode code 996 = .ok (.iadd, 1)) rfl rfl, ?_⟩
  refine List.forall_mem_cons.mpr ⟨s_sld C hX hbl hbA hσ hL (by decide +kernel : decode code 997 = .ok (.iaload, 1)) rfl rfl, ?_⟩
  refine List.forall_mem_cons.mpr ⟨s_ifeqW C (by decide +kernel : decode code 998 = .ok (.ifCond .eq 7, 3)) (by decide) rfl rfl (cntL_le (by decide)), ?_⟩
  refine List.forall_mem_cons.mpr ⟨s_iconst C (by decide +kernel : decode code 1001 = .ok (.iconst 1, 1)) rfl rfl (by decide), ?_⟩
  refine List.forall_mem_cons.mpr ⟨s_goto C (by decide +kernel : decode code 1002 = .ok (.goto 4, 3)) (by decide) rfl, ?_⟩
  refine List.forall_mem_cons.mpr ⟨s_iconst C (by decide +kernel : decode code 1005 = .ok (.iconst 0, 1)) rfl rfl (by decide), ?_⟩
  refine List.forall_mem_cons.mpr ⟨s_callPV C hFok hF (ct_X10_couple l D dA σ) ⟨rfl, rfl⟩ ew1020 em_cl_X10 ew1017 ew1018 ew1019 ew6 ⟨by decide, by decide, by decide +kernel⟩ ⟨by decide, by decide⟩ (by decide +kernel : decode code 1006 = .ok (.invokevirtual 137, 3)) rfl rfl (cntL_0 hkc) (by decide), ?_⟩
  refine List.forall_mem_cons.mpr ⟨s_icmpeqW C (by decide +kernel : decode code 1009 = .ok (.if_icmp .eq 267, 3)) (by decide) rfl rfl (cntL_le (by decide)), ?_⟩
  refine List.forall_mem_cons.mpr ⟨s_no, ?_⟩
  refine List.forall_mem_cons.mpr ⟨s_no, ?_⟩
  exact fun _ h => absurd h List.not_mem_nil
