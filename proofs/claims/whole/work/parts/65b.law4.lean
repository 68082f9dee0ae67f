/-! ===== the law's rows are sound (2) ===== -/
set_option maxRecDepth 100000 in
set_option maxHeartbeats 4000000 in
theorem snd_L10 {p : Program} {l : Launch} {e : Env} {s : State} {m : MethodId} {b L k : Nat} {xs : Nat → Int32} {below : List Frame} {meth : Method} {c : Code} {D : va_G} {dA : Nat → ClassId} {σ : Nat → Nat} {A : Nat → Prop} {Z : State → Prop} (C : em_Cx p s m #[Value.ref b] c D em_cl A 4 (em_tys dA) code "WedApartLaw") (hFok : em_Fok (em_F σ)) (hF : em_F σ A s s.heap) (hX : va_X b L xs s s.heap) (hbl : b < s.heap.size) (hbA : ¬ A b) (hσ : σ 11 = b) (hL : L < 2 ^ 31) (hkc : k ≤ 64) (Q : em_Q) : ∀ q ∈ T_L10 L xs, em_Snd p l e room_1 s m #[Value.ref b] below meth c D em_cl dA σ A 4 (cntL k) (fun _ => True) Z Q q.1 q.2 := by
  unfold T_L10
  refine List.forall_mem_cons.mpr ⟨s_aload_n C (by decide +kernel : decode code 458 = .ok (.aload_n 1, 1)) rfl rfl rfl, ?_⟩
  refine List.forall_mem_cons.mpr ⟨s_aloadX_n C (by decide +kernel : decode code 459 = .ok (.aload_n 0, 1)) rfl rfl rfl, ?_⟩
  refine List.forall_mem_cons.mpr ⟨s_iload_n C (by decide +kernel : decode code 460 = .ok (.iload_n 3, 1)) rfl rfl rfl, ?_⟩
  refine List.forall_mem_cons.mpr ⟨s_iconst C (by decide +kernel : decode code 461 = .ok (.iconst 1, 1)) rfl rfl (by decide), ?_⟩
  refine List.forall_mem_cons.mpr ⟨s_iadd C (by decide +kernel : decode code 462 = .ok (.iadd, 1)) rfl rfl, ?_⟩
  refine List.forall_mem_cons.mpr ⟨s_sld C hX hbl hbA hσ hL (by decide +kernel : decode code 463 = .ok (.iaload, 1)) rfl rfl, ?_⟩
  refine List.forall_mem_cons.mpr ⟨s_callV C hFok hF (ct_X9_opinions l D dA σ) ⟨rfl, rfl⟩ ew376 em_cl_X9 ew373 ew374 ew375 ew1 ⟨by decide, by decide, by decide +kernel⟩ ⟨by decide, by decide⟩ (by decide +kernel : decode code 464 = .ok (.invokevirtual 56, 3)) rfl rfl (cntL_0 hkc), ?_⟩
  refine List.forall_mem_cons.mpr ⟨s_aload_n C (by decide +kernel : decode code 467 = .ok (.aload_n 2, 1)) rfl rfl rfl, ?_⟩
  refine List.forall_mem_cons.mpr ⟨s_aloadX_n C (by decide +kernel : decode code 468 = .ok (.aload_n 0, 1)) rfl rfl rfl, ?_⟩
  refine List.forall_mem_cons.mpr ⟨s_iload_n C (by decide +kernel : decode code 469 = .ok (.iload_n 3, 1)) rfl rfl rfl, ?_⟩
  refine List.forall_mem_cons.mpr ⟨s_iconst C (by decide +kernel : decode code 470 = .ok (.iconst 1, 1)) rfl rfl (by decide), ?_⟩
  refine List.forall_mem_cons.mpr ⟨s_iadd C (by decide +kernel : decode code 471 = .ok (.iadd, 1)) rfl rfl, ?_⟩
  refine List.forall_mem_cons.mpr ⟨s_sld C hX hbl hbA hσ hL (by decide +kernel : decode code 472 = .ok (.iaload, 1)) rfl rfl, ?_⟩
  refine List.forall_mem_cons.mpr ⟨s_callPV C hFok hF (ct_X10_opinions l D dA σ) ⟨rfl, rfl⟩ ew880 em_cl_X10 ew877 ew878 ew879 ew6 ⟨by decide, by decide, by decide +kernel⟩ ⟨by decide, by decide⟩ (by decide +kernel : decode code 473 = .ok (.invokevirtual 59, 3)) rfl rfl (cntL_0 hkc) (by decide), ?_⟩
  refine List.forall_mem_cons.mpr ⟨s_icmpeqW C (by decide +kernel : decode code 476 = .ok (.if_icmp .eq 800, 3)) (by decide) rfl rfl (cntL_le (by decide)), ?_⟩
  refine List.forall_mem_cons.mpr ⟨s_no, ?_⟩
  refine List.forall_mem_cons.mpr ⟨s_no, ?_⟩
  exact fun _ h => absurd h List.not_mem_nil
set_option maxRecDepth 100000 in
set_option maxHeartbeats 4000000 in
theorem snd_L11 {p : Program} {l : Launch} {e : Env} {s : State} {m : MethodId} {b L k : Nat} {xs : Nat → Int32} {below : List Frame} {meth : Method} {c : Code} {D : va_G} {dA : Nat → ClassId} {σ : Nat → Nat} {A : Nat → Prop} {Z : State → Prop} (C : em_Cx p s m #[Value.ref b] c D em_cl A 4 (em_tys dA) code "WedApartLaw") (hFok : em_Fok (em_F σ)) (hF : em_F σ A s s.heap) (hX : va_X b L xs s s.heap) (hbl : b < s.heap.size) (hbA : ¬ A b) (hσ : σ 11 = b) (hL : L < 2 ^ 31) (hkc : k ≤ 64) (Q : em_Q) : ∀ q ∈ T_L11 L xs, em_Snd p l e room_1 s m #[Value.ref b] below meth c D em_cl dA σ A 4 (cntL k) (fun _ => True) Z Q q.1 q.2 := by
  unfold T_L11
  refine List.forall_mem_cons.mpr ⟨s_aload_n C (by decide +kernel : decode code 481 = .ok (.aload_n 1, 1)) rfl rfl rfl, ?_⟩
  refine List.forall_mem_cons.mpr ⟨s_aloadX_n C (by decide +kernel : decode code 482 = .ok (.aload_n 0, 1)) rfl rfl rfl, ?_⟩
  refine List.forall_mem_cons.mpr ⟨s_iload_n C (by decide +kernel : decode code 483 = .ok (.iload_n 3, 1)) rfl rfl rfl, ?_⟩
  refine List.forall_mem_cons.mpr ⟨s_iconst C (by decide +kernel : decode code 484 = .ok (.iconst 1, 1)) rfl rfl (by decide), ?_⟩
  refine List.forall_mem_cons.mpr ⟨s_iadd C (by decide +kernel : decode code 485 = .ok (.iadd, 1)) rfl rfl, ?_⟩
  refine List.forall_mem_cons.mpr ⟨s_sld C hX hbl hbA hσ hL (by decide +kernel : decode code 486 = .ok (.iaload, 1)) rfl rfl, ?_⟩
  refine List.forall_mem_cons.mpr ⟨s_aloadX_n C (by decide +kernel : decode code 487 = .ok (.aload_n 0, 1)) rfl rfl rfl, ?_⟩
  refine List.forall_mem_cons.mpr ⟨s_iload_n C (by decide +kernel : decode code 488 = .ok (.iload_n 3, 1)) rfl rfl rfl, ?_⟩
  refine List.forall_mem_cons.mpr ⟨s_iconst C (by decide +kernel : decode code 489 = .ok (.iconst 2, 1)) rfl rfl (by decide), ?_⟩
  refine List.forall_mem_cons.mpr ⟨s_iadd C (by decide +kernel : decode code 490 = .ok (.iadd, 1)) rfl rfl, ?_⟩
  refine List.forall_mem_cons.mpr ⟨s_sld C hX hbl hbA hσ hL (by decide +kernel : decode code 491 = .ok (.iaload, 1)) rfl rfl, ?_⟩
  refine List.forall_mem_cons.mpr ⟨s_callV C hFok hF (ct_X9_differ l D dA σ) ⟨rfl, rfl⟩ ew381 em_cl_X9 ew378 ew379 ew380 ew1 ⟨by decide, by decide, by decide +kernel⟩ ⟨by decide, by decide⟩ (by decide +kernel : decode code 492 = .ok (.invokevirtual 60, 3)) rfl rfl (cntL_0 hkc), ?_⟩
  refine List.forall_mem_cons.mpr ⟨s_aload_n C (by decide +kernel : decode code 495 = .ok (.aload_n 2, 1)) rfl rfl rfl, ?_⟩
  refine List.forall_mem_cons.mpr ⟨s_aloadX_n C (by decide +kernel : decode code 496 = .ok (.aload_n 0, 1)) rfl rfl rfl, ?_⟩
  refine List.forall_mem_cons.mpr ⟨s_iload_n C (by decide +kernel : decode code 497 = .ok (.iload_n 3, 1)) rfl rfl rfl, ?_⟩
  refine List.forall_mem_cons.mpr ⟨s_iconst C (by decide +kernel : decode code 498 = .ok (.iconst 1, 1)) rfl rfl (by decide), ?_⟩
  refine List.forall_mem_cons.mpr ⟨s_iadd C (by decide +kernel : decode code 499 = .ok (.iadd, 1)) rfl rfl, ?_⟩
  refine List.forall_mem_cons.mpr ⟨s_sld C hX hbl hbA hσ hL (by decide +kernel : decode code 500 = .ok (.iaload, 1)) rfl rfl, ?_⟩
  refine List.forall_mem_cons.mpr ⟨s_aloadX_n C (by decide +kernel : decode code 501 = .ok (.aload_n 0, 1)) rfl rfl rfl, ?_⟩
  refine List.forall_mem_cons.mpr ⟨s_iload_n C (by decide +kernel : decode code 502 = .ok (.iload_n 3, 1)) rfl rfl rfl, ?_⟩
  refine List.forall_mem_cons.mpr ⟨s_iconst C (by decide +kernel : decode code 503 = .ok (.iconst 2, 1)) rfl rfl (by decide), ?_⟩
  refine List.forall_mem_cons.mpr ⟨s_iadd C (by decide +kernel : decode code 504 = .ok (.iadd, 1)) rfl rfl, ?_⟩
  refine List.forall_mem_cons.mpr ⟨s_sld C hX hbl hbA hσ hL (by decide +kernel : decode code 505 = .ok (.iaload, 1)) rfl rfl, ?_⟩
  refine List.forall_mem_cons.mpr ⟨s_callPV C hFok hF (ct_X10_differ l D dA σ) ⟨rfl, rfl⟩ ew884 em_cl_X10 ew881 ew882 ew883 ew6 ⟨by decide, by decide, by decide +kernel⟩ ⟨by decide, by decide⟩ (by decide +kernel : decode code 506 = .ok (.invokevirtual 63, 3)) rfl rfl (cntL_0 hkc) (by decide), ?_⟩
  refine List.forall_mem_cons.mpr ⟨s_icmpeqW C (by decide +kernel : decode code 509 = .ok (.if_icmp .eq 767, 3)) (by decide) rfl rfl (cntL_le (by decide)), ?_⟩
  refine List.forall_mem_cons.mpr ⟨s_no, ?_⟩
  refine List.forall_mem_cons.mpr ⟨s_no, ?_⟩
  exact fun _ h => absurd h List.not_mem_nil
set_option maxRecDepth 100000 in
set_option maxHeartbeats 4000000 in
theorem snd_L12 {p : Program} {l : Launch} {e : Env} {s : State} {m : MethodId} {b L k : Nat} {xs : Nat → Int32} {below : List Frame} {meth : Method} {c : Code} {D : va_G} {dA : Nat → ClassId} {σ : Nat → Nat} {A : Nat → Prop} {Z : State → Prop} (C : em_Cx p s m #[Value.ref b] c D em_cl A 4 (em_tys dA) code "WedApartLaw") (hFok : em_Fok (em_F σ)) (hF : em_F σ A s s.heap) (hX : va_X b L xs s s.heap) (hbl : b < s.heap.size) (hbA : ¬ A b) (hσ : σ 11 = b) (hL : L < 2 ^ 31) (hkc : k ≤ 64) (Q : em_Q) : ∀ q ∈ T_L12 L xs, em_Snd p l e room_1 s m #[Value.ref b] below meth c D em_cl dA σ A 4 (cntL k) (fun _ => True) Z Q q.1 q.2 := by
  unfold T_L12
  refine List.forall_mem_cons.mpr ⟨s_aload_n C (by decide +kernel : decode code 514 = .ok (.aload_n 1, 1)) rfl rfl rfl, ?_⟩
  refine List.forall_mem_cons.mpr ⟨s_aloadX_n C (by decide +kernel : decode code 515 = .ok (.aload_n 0, 1)) rfl rfl rfl, ?_⟩
  refine List.forall_mem_cons.mpr ⟨s_iload_n C (by decide +kernel : decode code 516 = .ok (.iload_n 3, 1)) rfl rfl rfl, ?_⟩
  refine List.forall_mem_cons.mpr ⟨s_iconst C (by decide +kernel : decode code 517 = .ok (.iconst 1, 1)) rfl rfl (by decide), ?_⟩
  refine List.forall_mem_cons.mpr ⟨s_iadd C (by decide +kernel : decode code 518 = .ok (.iadd, 1)) rfl rfl, ?_⟩
  refine List.forall_mem_cons.mpr ⟨s_sld C hX hbl hbA hσ hL (by decide +kernel : decode code 519 = .ok (.iaload, 1)) rfl rfl, ?_⟩
  refine List.forall_mem_cons.mpr ⟨s_aloadX_n C (by decide +kernel : decode code 520 = .ok (.aload_n 0, 1)) rfl rfl rfl, ?_⟩
  refine List.forall_mem_cons.mpr ⟨s_iload_n C (by decide +kernel : decode code 521 = .ok (.iload_n 3, 1)) rfl rfl rfl, ?_⟩
  refine List.forall_mem_cons.mpr ⟨s_iconst C (by decide +kernel : decode code 522 = .ok (.iconst 2, 1)) rfl rfl (by decide), ?_⟩
  refine List.forall_mem_cons.mpr ⟨s_iadd C (by decide +kernel : decode code 523 = .ok (.iadd, 1)) rfl rfl, ?_⟩
  refine List.forall_mem_cons.mpr ⟨s_sld C hX hbl hbA hσ hL (by decide +kernel : decode code 524 = .ok (.iaload, 1)) rfl rfl, ?_⟩
  refine List.forall_mem_cons.mpr ⟨s_callV C hFok hF (ct_X9_apart l D dA σ) ⟨rfl, rfl⟩ ew386 em_cl_X9 ew383 ew384 ew385 ew1 ⟨by decide, by decide, by decide +kernel⟩ ⟨by decide, by decide⟩ (by decide +kernel : decode code 525 = .ok (.invokevirtual 64, 3)) rfl rfl (cntL_0 hkc), ?_⟩
  refine List.forall_mem_cons.mpr ⟨s_aload_n C (by decide +kernel : decode code 528 = .ok (.aload_n 2, 1)) rfl rfl rfl, ?_⟩
  refine List.forall_mem_cons.mpr ⟨s_aloadX_n C (by decide +kernel : decode code 529 = .ok (.aload_n 0, 1)) rfl rfl rfl, ?_⟩
  refine List.forall_mem_cons.mpr ⟨s_iload_n C (by decide +kernel : decode code 530 = .ok (.iload_n 3, 1)) rfl rfl rfl, ?_⟩
  refine List.forall_mem_cons.mpr ⟨s_iconst C (by decide +kernel : decode code 531 = .ok (.iconst 1, 1)) rfl rfl (by decide), ?_⟩
  refine List.forall_mem_cons.mpr ⟨s_iadd C (by decide +kernel : decode code 532 = .ok (.iadd, 1)) rfl rfl, ?_⟩
  refine List.forall_mem_cons.mpr ⟨s_sld C hX hbl hbA hσ hL (by decide +kernel : decode code 533 = .ok (.iaload, 1)) rfl rfl, ?_⟩
  refine List.forall_mem_cons.mpr ⟨s_aloadX_n C (by decide +kernel : decode code 534 = .ok (.aload_n 0, 1)) rfl rfl rfl, ?_⟩
  refine List.forall_mem_cons.mpr ⟨s_iload_n C (by decide +kernel : decode code 535 = .ok (.iload_n 3, 1)) rfl rfl rfl, ?_⟩
  refine List.forall_mem_cons.mpr ⟨s_iconst C (by decide +kernel : decode code 536 = .ok (.iconst 2, 1)) rfl rfl (by decide), ?_⟩
  refine List.forall_mem_cons.mpr ⟨s_iadd C (by decide +kernel : decode code 537 = .ok (.iadd, 1)) rfl rfl, ?_⟩
  refine List.forall_mem_cons.mpr ⟨s_sld C hX hbl hbA hσ hL (by decide +kernel : decode code 538 = .ok (.iaload, 1)) rfl rfl, ?_⟩
  refine List.forall_mem_cons.mpr ⟨s_callPV C hFok hF (ct_X10_apart l D dA σ) ⟨rfl, rfl⟩ ew888 em_cl_X10 ew885 ew886 ew887 ew6 ⟨by decide, by decide, by decide +kernel⟩ ⟨by decide, by decide⟩ (by decide +kernel : decode code 539 = .ok (.invokevirtual 67, 3)) rfl rfl (cntL_0 hkc) (by decide), ?_⟩
  refine List.forall_mem_cons.mpr ⟨s_icmpeqW C (by decide +kernel : decode code 542 = .ok (.if_icmp .eq 734, 3)) (by decide) rfl rfl (cntL_le (by decide)), ?_⟩
  refine List.forall_mem_cons.mpr ⟨s_no, ?_⟩
  refine List.forall_mem_cons.mpr ⟨s_no, ?_⟩
  exact fun _ h => absurd h List.not_mem_nil
set_option maxRecDepth 100000 in
set_option maxHeartbeats 4000000 in
theorem snd_L13 {p : Program} {l : Launch} {e : Env} {s : State} {m : MethodId} {b L k : Nat} {xs : Nat → Int32} {below : List Frame} {meth : Method} {c : Code} {D : va_G} {dA : Nat → ClassId} {σ : Nat → Nat} {A : Nat → Prop} {Z : State → Prop} (C : em_Cx p s m #[Value.ref b] c D em_cl A 4 (em_tys dA) code "WedApartLaw") (hFok : em_Fok (em_F σ)) (hF : em_F σ A s s.heap) (hX : va_X b L xs s s.heap) (hbl : b < s.heap.size) (hbA : ¬ A b) (hσ : σ 11 = b) (hL : L < 2 ^ 31) (hkc : k ≤ 64) (Q : em_Q) : ∀ q ∈ T_L13 L xs, em_Snd p l e room_1 s m #[Value.ref b] below meth c D em_cl dA σ A 4 (cntL k) (fun _ => True) Z Q q.1 q.2 := by
  unfold T_L13
  refine List.forall_mem_cons.mpr ⟨s_aload_n C (by decide +kernel : decode code 547 = .ok (.aload_n 1, 1)) rfl rfl rfl, ?_⟩
  refine List.forall_mem_cons.mpr ⟨s_aloadX_n C (by decide +kernel : decode code 548 = .ok (.aload_n 0, 1)) rfl rfl rfl, ?_⟩
  refine List.forall_mem_cons.mpr ⟨s_iload_n C (by decide +kernel : decode code 549 = .ok (.iload_n 3, 1)) rfl rfl rfl, ?_⟩
  refine List.forall_mem_cons.mpr ⟨s_iconst C (by decide +kernel : decode code 550 = .ok (.iconst 1, 1)) rfl rfl (by decide), ?_⟩
  refine List.forall_mem_cons.mpr ⟨s_iadd C (by decide +kernel : decode code 551 = .ok (.iadd, 1)) rfl rfl, ?_⟩
  refine List.forall_mem_cons.mpr ⟨s_sld C hX hbl hbA hσ hL (by decide +kernel : decode code 552 = .ok (.iaload, 1)) rfl rfl, ?_⟩
  refine List.forall_mem_cons.mpr ⟨s_callV C hFok hF (ct_X9_lawful l D dA σ) ⟨rfl, rfl⟩ ew400 em_cl_X9 ew397 ew398 ew399 ew1 ⟨by decide, by decide, by decide +kernel⟩ ⟨by decide, by decide⟩ (by decide +kernel : decode code 553 = .ok (.invokevirtual 68, 3)) rfl rfl (cntL_0 hkc), ?_⟩
  refine List.forall_mem_cons.mpr ⟨s_aload_n C (by decide +kernel : decode code 556 = .ok (.aload_n 2, 1)) rfl rfl rfl, ?_⟩
  refine List.forall_mem_cons.mpr ⟨s_aloadX_n C (by decide +kernel : decode code 557 = .ok (.aload_n 0, 1)) rfl rfl rfl, ?_⟩
  refine List.forall_mem_cons.mpr ⟨s_iload_n C (by decide +kernel : decode code 558 = .ok (.iload_n 3, 1)) rfl rfl rfl, ?_⟩
  refine List.forall_mem_cons.mpr ⟨s_iconst C (by decide +kernel : decode code 559 = .ok (.iconst 1, 1)) rfl rfl (by decide), ?_⟩
  refine List.forall_mem_cons.mpr ⟨s_iadd C (by decide +kernel : decode code 560 = .ok (.iadd, 1)) rfl rfl, ?_⟩
  refine List.forall_mem_cons.mpr ⟨s_sld C hX hbl hbA hσ hL (by decide +kernel : decode code 561 = .ok (.iaload, 1)) rfl rfl, ?_⟩
  refine List.forall_mem_cons.mpr ⟨s_callPV C hFok hF (ct_X10_lawful l D dA σ) ⟨rfl, rfl⟩ ew899 em_cl_X10 ew896 ew897 ew898 ew6 ⟨by decide, by decide, by decide +kernel⟩ ⟨by decide, by decide⟩ (by decide +kernel : decode code 562 = .ok (.invokevirtual 71, 3)) rfl rfl (cntL_0 hkc) (by decide), ?_⟩
  refine List.forall_mem_cons.mpr ⟨s_icmpeqW C (by decide +kernel : decode code 565 = .ok (.if_icmp .eq 711, 3)) (by decide) rfl rfl (cntL_le (by decide)), ?_⟩
  refine List.forall_mem_cons.mpr ⟨s_no, ?_⟩
  refine List.forall_mem_cons.mpr ⟨s_no, ?_⟩
  exact fun _ h => absurd h List.not_mem_nil
set_option maxRecDepth 100000 in
set_option maxHeartbeats 4000000 in
theorem snd_L14 {p : Program} {l : Launch} {e : Env} {s : State} {m : MethodId} {b L k : Nat} {xs : Nat → Int32} {below : List Frame} {meth : Method} {c : Code} {D : va_G} {dA : Nat → ClassId} {σ : Nat → Nat} {A : Nat → Prop} {Z : State → Prop} (C : em_Cx p s m #[Value.ref b] c D em_cl A 4 (em_tys dA) code "WedApartLaw") (hFok : em_Fok (em_F σ)) (hF : em_F σ A s s.heap) (hX : va_X b L xs s s.heap) (hbl : b < s.heap.size) (hbA : ¬ A b) (hσ : σ 11 = b) (hL : L < 2 ^ 31) (hkc : k ≤ 64) (Q : em_Q) : ∀ q ∈ T_L14 L xs, em_Snd p l e room_1 s m #[Value.ref b] below meth c D em_cl dA σ A 4 (cntL k) (fun _ => True) Z Q q.1 q.2 := by
  unfold T_L14
  refine List.forall_mem_cons.mpr ⟨s_aload_n C (by decide +kernel : decode code 570 = .ok (.aload_n 1, 1)) rfl rfl rfl, ?_⟩
  refine List.forall_mem_cons.mpr ⟨s_aloadX_n C (by decide +kernel : decode code 571 = .ok (.aload_n 0, 1)) rfl rfl rfl, ?_⟩
  refine List.forall_mem_cons.mpr ⟨s_iload_n C (by decide +kernel : decode code 572 = .ok (.iload_n 3, 1)) rfl rfl rfl, ?_⟩
  refine List.forall_mem_cons.mpr ⟨s_iconst C (by decide +kernel : decode code 573 = .ok (.iconst 1, 1)) rfl rfl (by decide), ?_⟩
  refine List.forall_mem_cons.mpr ⟨s_iadd C (by decide +kernel : decode code 574 = .ok (.iadd, 1)) rfl rfl, ?_⟩
  refine List.forall_mem_cons.mpr ⟨s_sld C hX hbl hbA hσ hL (by decide +kernel : decode code 575 = .ok (.iaload, 1)) rfl rfl, ?_⟩
  refine List.forall_mem_cons.mpr ⟨s_callV C hFok hF (ct_X9_three l D dA σ) ⟨rfl, rfl⟩ ew413 em_cl_X9 ew410 ew411 ew412 ew1 ⟨by decide, by decide, by decide +kernel⟩ ⟨by decide, by decide⟩ (by decide +kernel : decode code 576 = .ok (.invokevirtual 72, 3)) rfl rfl (cntL_0 hkc), ?_⟩
  refine List.forall_mem_cons.mpr ⟨s_aload_n C (by decide +kernel : decode code 579 = .ok (.aload_n 2, 1)) rfl rfl rfl, ?_⟩
  refine List.forall_mem_cons.mpr ⟨s_aloadX_n C (by decide +kernel : decode code 580 = .ok (.aload_n 0, 1)) rfl rfl rfl, ?_⟩
  refine List.forall_mem_cons.mpr ⟨s_iload_n C (by decide +kernel : decode code 581 = .ok (.iload_n 3, 1)) rfl rfl rfl, ?_⟩
  refine List.forall_mem_cons.mpr ⟨s_iconst C (by decide +kernel : decode code 582 = .ok (.iconst 1, 1)) rfl rfl (by decide), ?_⟩
  refine List.forall_mem_cons.mpr ⟨s_iadd C (by decide +kernel : decode code 583 = .ok (.iadd, 1)) rfl rfl, ?_⟩
  refine List.forall_mem_cons.mpr ⟨s_sld C hX hbl hbA hσ hL (by decide +kernel : decode code 584 = .ok (.iaload, 1)) rfl rfl, ?_⟩
  refine List.forall_mem_cons.mpr ⟨s_callPV C hFok hF (ct_X10_three l D dA σ) ⟨rfl, rfl⟩ ew911 em_cl_X10 ew908 ew909 ew910 ew6 ⟨by decide, by decide, by decide +kernel⟩ ⟨by decide, by decide⟩ (by decide +kernel : decode code 585 = .ok (.invokevirtual 75, 3)) rfl rfl (cntL_0 hkc) (by decide), ?_⟩
  refine List.forall_mem_cons.mpr ⟨s_icmpeqW C (by decide +kernel : decode code 588 = .ok (.if_icmp .eq 688, 3)) (by decide) rfl rfl (cntL_le (by decide)), ?_⟩
  refine List.forall_mem_cons.mpr ⟨s_no, ?_⟩
  refine List.forall_mem_cons.mpr ⟨s_no, ?_⟩
  exact fun _ h => absurd h List.not_mem_nil
set_option maxRecDepth 100000 in
set_option maxHeartbeats 4000000 in
theorem snd_L15 {p : Program} {l : Launch} {e : Env} {s : State} {m : MethodId} {b L k : Nat} {xs : Nat → Int32} {below : List Frame} {meth : Method} {c : Code} {D : va_G} {dA : Nat → ClassId} {σ : Nat → Nat} {A : Nat → Prop} {Z : State → Prop} (C : em_Cx p s m #[Value.ref b] c D em_cl A 4 (em_tys dA) code "WedApartLaw") (hFok : em_Fok (em_F σ)) (hF : em_F σ A s s.heap) (hX : va_X b L xs s s.heap) (hbl : b < s.heap.size) (hbA : ¬ A b) (hσ : σ 11 = b) (hL : L < 2 ^ 31) (hkc : k ≤ 64) (Q : em_Q) : ∀ q ∈ T_L15 L xs, em_Snd p l e room_1 s m #[Value.ref b] below meth c D em_cl dA σ A 4 (cntL k) (fun _ => True) Z Q q.1 q.2 := by
  unfold T_L15
  refine List.forall_mem_cons.mpr ⟨s_aload_n C (by decide +kernel : decode code 593 = .ok (.aload_n 1, 1)) rfl rfl rfl, ?_⟩
  refine List.forall_mem_cons.mpr ⟨s_callV C hFok hF (ct_X9_evening l D dA σ) ⟨rfl, rfl⟩ ew423 em_cl_X9 ew420 ew421 ew422 ew1 ⟨by decide, by decide, by decide +kernel⟩ ⟨by decide, by decide⟩ (by decide +kernel : decode code 594 = .ok (.invokevirtual 76, 3)) rfl rfl (cntL_0 hkc), ?_⟩
  refine List.forall_mem_cons.mpr ⟨s_aload_n C (by decide +kernel : decode code 597 = .ok (.aload_n 2, 1)) rfl rfl rfl, ?_⟩
  refine List.forall_mem_cons.mpr ⟨s_callPV C hFok hF (ct_X10_evening l D dA σ) ⟨rfl, rfl⟩ ew915 em_cl_X10 ew912 ew913 ew914 ew6 ⟨by decide, by decide, by decide +kernel⟩ ⟨by decide, by decide⟩ (by decide +kernel : decode code 598 = .ok (.invokevirtual 79, 3)) rfl rfl (cntL_0 hkc) (by decide), ?_⟩
  refine List.forall_mem_cons.mpr ⟨s_icmpeqW C (by decide +kernel : decode code 601 = .ok (.if_icmp .eq 675, 3)) (by decide) rfl rfl (cntL_le (by decide)), ?_⟩
  refine List.forall_mem_cons.mpr ⟨s_no, ?_⟩
  refine List.forall_mem_cons.mpr ⟨s_no, ?_⟩
  exact fun _ h => absurd h List.not_mem_nil
set_option maxRecDepth 100000 in
set_option maxHeartbeats 4000000 in
theorem snd_L16 {p : Program} {l : Launch} {e : Env} {s : State} {m : MethodId} {b L k : Nat} {xs : Nat → Int32} {below : List Frame} {meth : Method} {c : Code} {D : va_G} {dA : Nat → ClassId} {σ : Nat → Nat} {A : Nat → Prop} {Z : State → Prop} (C : em_Cx p s m #[Value.ref b] c D em_cl A 4 (em_tys dA) code "WedApartLaw") (hFok : em_Fok (em_F σ)) (hF : em_F σ A s s.heap) (hX : va_X b L xs s s.heap) (hbl : b < s.heap.size) (hbA : ¬ A b) (hσ : σ 11 = b) (hL : L < 2 ^ 31) (hkc : k ≤ 64) (Q : em_Q) : ∀ q ∈ T_L16 L xs, em_Snd p l e room_1 s m #[Value.ref b] below meth c D em_cl dA σ A 4 (cntL k) (fun _ => True) Z Q q.1 q.2 := by
  unfold T_L16
  refine List.forall_mem_cons.mpr ⟨s_aload_n C (by decide +kernel : decode code 606 = .ok (.aload_n 1, 1)) rfl rfl rfl, ?_⟩
  refine List.forall_mem_cons.mpr ⟨s_aloadX_n C (by decide +kernel : decode code 607 = .ok (.aload_n 0, 1)) rfl rfl rfl, ?_⟩
  refine List.forall_mem_cons.mpr ⟨s_iload_n C (by decide +kernel : decode code 608 = .ok (.iload_n 3, 1)) rfl rfl rfl, ?_⟩
  refine List.forall_mem_cons.mpr ⟨s_iconst C (by decide +kernel : decode code 609 = .ok (.iconst 1, 1)) rfl rfl (by decide), ?_⟩
  refine List.forall_mem_cons.mpr ⟨s_iadd C (by decide +kernel : decode code 610 = .ok (.iadd, 1)) rfl rfl, ?_⟩
  refine List.forall_mem_cons.mpr ⟨s_sld C hX hbl hbA hσ hL (by decide +kernel : decode code 611 = .ok (.iaload, 1)) rfl rfl, ?_⟩
  refine List.forall_mem_cons.mpr ⟨s_aloadX_n C (by decide +kernel : decode code 612 = .ok (.aload_n 0, 1)) rfl rfl rfl, ?_⟩
  refine List.forall_mem_cons.mpr ⟨s_iload_n C (by decide +kernel : decode code 613 = .ok (.iload_n 3, 1)) rfl rfl rfl, ?_⟩
  refine List.forall_mem_cons.mpr ⟨s_iconst C (by decide +kernel : decode code 614 = .ok (.iconst 2, 1)) rfl rfl (by decide), ?_⟩
  refine List.forall_mem_cons.mpr ⟨s_iadd C (by decide +kernel : decode code 615 = .ok (.iadd, 1)) rfl rfl, ?_⟩
  refine List.forall_mem_cons.mpr ⟨s_sld C hX hbl hbA hσ hL (by decide +kernel : decode code 616 = .ok (.iaload, 1)) rfl rfl, ?_⟩
  refine List.forall_mem_cons.mpr ⟨s_callV C hFok hF (ct_X9_meet l D dA σ) ⟨rfl, rfl⟩ ew458 em_cl_X9 ew455 ew456 ew457 ew1 ⟨by decide, by decide, by decide +kernel⟩ ⟨by decide, by decide⟩ (by decide +kernel : decode code 617 = .ok (.invokevirtual 80, 3)) rfl rfl (cntL_0 hkc), ?_⟩
  refine List.forall_mem_cons.mpr ⟨s_aload_n C (by decide +kernel : decode code 620 = .ok (.aload_n 2, 1)) rfl rfl rfl, ?_⟩
  refine List.forall_mem_cons.mpr ⟨s_aloadX_n C (by decide +kernel : decode code 621 = .ok (.aload_n 0, 1)) rfl rfl rfl, ?_⟩
  refine List.forall_mem_cons.mpr ⟨s_iload_n C (by decide +kernel : decode code 622 = .ok (.iload_n 3, 1)) rfl rfl rfl, ?_⟩
  refine List.forall_mem_cons.mpr ⟨s_iconst C (by decide +kernel : decode code 623 = .ok (.iconst 1, 1)) rfl rfl (by decide), ?_⟩
  refine List.forall_mem_cons.mpr ⟨s_iadd C (by decide +kernel : decode code 624 = .ok (.iadd, 1)) rfl rfl, ?_⟩
  refine List.forall_mem_cons.mpr ⟨s_sld C hX hbl hbA hσ hL (by decide +kernel : decode code 625 = .ok (.iaload, 1)) rfl rfl, ?_⟩
  refine List.forall_mem_cons.mpr ⟨s_aloadX_n C (by decide +kernel : decode code 626 = .ok (.aload_n 0, 1)) rfl rfl rfl, ?_⟩
  refine List.forall_mem_cons.mpr ⟨s_iload_n C (by decide +kernel : decode code 627 = .ok (.iload_n 3, 1)) rfl rfl rfl, ?_⟩
  refine List.forall_mem_cons.mpr ⟨s_iconst C (by decide +kernel : decode code 628 = .ok (.iconst 2, 1)) rfl rfl (by decide), ?_⟩
  refine List.forall_mem_cons.mpr ⟨s_iadd C (by decide +kernel : decode code 629 = .ok (.iadd, 1)) rfl rfl, ?_⟩
  refine List.forall_mem_cons.mpr ⟨s_sld C hX hbl hbA hσ hL (by decide +kernel : decode code 630 = .ok (.iaload, 1)) rfl rfl, ?_⟩
  refine List.forall_mem_cons.mpr ⟨s_callPV C hFok hF (ct_X10_meet l D dA σ) ⟨rfl, rfl⟩ ew939 em_cl_X10 ew936 ew937 ew938 ew6 ⟨by decide, by decide, by decide +kernel⟩ ⟨by decide, by decide⟩ (by decide +kernel : decode code 631 = .ok (.invokevirtual 83, 3)) rfl rfl (cntL_0 hkc) (by decide), ?_⟩
  refine List.forall_mem_cons.mpr ⟨s_icmpeqW C (by decide +kernel : decode code 634 = .ok (.if_icmp .eq 642, 3)) (by decide) rfl rfl (cntL_le (by decide)), ?_⟩
  refine List.forall_mem_cons.mpr ⟨s_no, ?_⟩
  refine List.forall_mem_cons.mpr ⟨s_no, ?_⟩
  exact fun _ h => absurd h List.not_mem_nil
set_option maxRecDepth 100000 in
set_option maxHeartbeats 4000000 in
theorem snd_L17 {p : Program} {l : Launch} {e : Env} {s : State} {m : MethodId} {b L k : Nat} {xs : Nat → Int32} {below : List Frame} {meth : Method} {c : Code} {D : va_G} {dA : Nat → ClassId} {σ : Nat → Nat} {A : Nat → Prop} {Z : State → Prop} (C : em_Cx p s m #[Value.ref b] c D em_cl A 4 (em_tys dA) code "WedApartLaw") (hFok : em_Fok (em_F σ)) (hF : em_F σ A s s.heap) (hX : va_X b L xs s s.heap) (hbl : b < s.heap.size) (hbA : ¬ A b) (hσ : σ 11 = b) (hL : L < 2 ^ 31) (hkc : k ≤ 64) (Q : em_Q) : ∀ q ∈ T_L17 L xs, em_Snd p l e room_1 s m #[Value.ref b] below meth c D em_cl dA σ A 4 (cntL k) (fun _ => True) Z Q q.1 q.2 := by
  unfold T_L17
  refine List.forall_mem_cons.mpr ⟨s_aload_n C (by decide +kernel : decode code 639 = .ok (.aload_n 1, 1)) rfl rfl rfl, ?_⟩
  refine List.forall_mem_cons.mpr ⟨s_callV C hFok hF (ct_X9_undo l D dA σ) ⟨rfl, rfl⟩ ew463 em_cl_X9 ew460 ew461 ew462 ew1 ⟨by decide, by decide, by decide +kernel⟩ ⟨by decide, by decide⟩ (by decide +kernel : decode code 640 = .ok (.invokevirtual 84, 3)) rfl rfl (cntL_0 hkc), ?_⟩
  refine List.forall_mem_cons.mpr ⟨s_aload_n C (by decide +kernel : decode code 643 = .ok (.aload_n 2, 1)) rfl rfl rfl, ?_⟩
  refine List.forall_mem_cons.mpr ⟨s_callPV C hFok hF (ct_X10_undo l D dA σ) ⟨rfl, rfl⟩ ew943 em_cl_X10 ew940 ew941 ew942 ew6 ⟨by decide, by decide, by decide +kernel⟩ ⟨by decide, by decide⟩ (by decide +kernel : decode code 644 = .ok (.invokevirtual 87, 3)) rfl rfl (cntL_0 hkc) (by decide), ?_⟩
  refine List.forall_mem_cons.mpr ⟨s_icmpeqW C (by decide +kernel : decode code 647 = .ok (.if_icmp .eq 629, 3)) (by decide) rfl rfl (cntL_le (by decide)), ?_⟩
  refine List.forall_mem_cons.mpr ⟨s_no, ?_⟩
  refine List.forall_mem_cons.mpr ⟨s_no, ?_⟩
  exact fun _ h => absurd h List.not_mem_nil
set_option maxRecDepth 100000 in
set_option maxHeartbeats 4000000 in
theorem snd_L18 {p : Program} {l : Launch} {e : Env} {s : State} {m : MethodId} {b L k : Nat} {xs : Nat → Int32} {below : List Frame} {meth : Method} {c : Code} {D : va_G} {dA : Nat → ClassId} {σ : Nat → Nat} {A : Nat → Prop} {Z : State → Prop} (C : em_Cx p s m #[Value.ref b] c D em_cl A 4 (em_tys dA) code "WedApartLaw") (hFok : em_Fok (em_F σ)) (hF : em_F σ A s s.heap) (hX : va_X b L xs s s.heap) (hbl : b < s.heap.size) (hbA : ¬ A b) (hσ : σ 11 = b) (hL : L < 2 ^ 31) (hkc : k ≤ 64) (Q : em_Q) : ∀ q ∈ T_L18 L xs, em_Snd p l e room_1 s m #[Value.ref b] below meth c D em_cl dA σ A 4 (cntL k) (fun _ => True) Z Q q.1 q.2 := by
  unfold T_L18
  refine List.forall_mem_cons.mpr ⟨s_aload_n C (by decide +kernel : decode code 652 = .ok (.aload_n 1, 1)) rfl rfl rfl, ?_⟩
  refine List.forall_mem_cons.mpr ⟨s_aloadX_n C (by decide +kernel : decode code 653 = .ok (.aload_n 0, 1)) rfl rfl rfl, ?_⟩
  refine List.forall_mem_cons.mpr ⟨s_iload_n C (by decide +kernel : decode code 654 = .ok (.iload_n 3, 1)) rfl rfl rfl, ?_⟩
  refine List.forall_mem_cons.mpr ⟨s_iconst C (by decide +kernel : decode code 655 = .ok (.iconst 1, 1)) rfl rfl (by decide), ?_⟩
  refine List.forall_mem_cons.mpr ⟨s_iadd C (by decide +kernel : decode code 656 = .ok (.iadd, 1)) rfl rfl, ?_⟩
  refine List.forall_mem_cons.mpr ⟨s_sld C hX hbl hbA hσ hL (by decide +kernel : decode code 657 = .ok (.iaload, 1)) rfl rfl, ?_⟩
  refine List.forall_mem_cons.mpr ⟨s_aloadX_n C (by decide +kernel : decode code 658 = .ok (.aload_n 0, 1)) rfl rfl rfl, ?_⟩
  refine List.forall_mem_cons.mpr ⟨s_iload_n C (by decide +kernel : decode code 659 = .ok (.iload_n 3, 1)) rfl rfl rfl, ?_⟩
  refine List.forall_mem_cons.mpr ⟨s_iconst C (by decide +kernel : decode code 660 = .ok (.iconst 2, 1)) rfl rfl (by decide), ?_⟩
  refine List.forall_mem_cons.mpr ⟨s_iadd C (by decide +kernel : decode code 661 = .ok (.iadd, 1)) rfl rfl, ?_⟩
  refine List.forall_mem_cons.mpr ⟨s_sld C hX hbl hbA hσ hL (by decide +kernel : decode code 662 = .ok (.iaload, 1)) rfl rfl, ?_⟩
  refine List.forall_mem_cons.mpr ⟨s_callV C hFok hF (ct_X9_behind l D dA σ) ⟨rfl, rfl⟩ ew471 em_cl_X9 ew468 ew469 ew470 ew1 ⟨by decide, by decide, by decide +kernel⟩ ⟨by decide, by decide⟩ (by decide +kernel : decode code 663 = .ok (.invokevirtual 88, 3)) rfl rfl (cntL_0 hkc), ?_⟩
  refine List.forall_mem_cons.mpr ⟨s_aload_n C (by decide +kernel : decode code 666 = .ok (.aload_n 2, 1)) rfl rfl rfl, ?_⟩
  refine List.forall_mem_cons.mpr ⟨s_aloadX_n C (by decide +kernel : decode code 667 = .ok (.aload_n 0, 1)) rfl rfl rfl, ?_⟩
  refine List.forall_mem_cons.mpr ⟨s_iload_n C (by decide +kernel : decode code 668 = .ok (.iload_n 3, 1)) rfl rfl rfl, ?_⟩
  refine List.forall_mem_cons.mpr ⟨s_iconst C (by decide +kernel : decode code 669 = .ok (.iconst 1, 1)) rfl rfl (by decide), ?_⟩
  refine List.forall_mem_cons.mpr ⟨s_iadd C (by decide +kernel : decode code 670 = .ok (.iadd, 1)) rfl rfl, ?_⟩
  refine List.forall_mem_cons.mpr ⟨s_sld C hX hbl hbA hσ hL (by decide +kernel : decode code 671 = .ok (.iaload, 1)) rfl rfl, ?_⟩
  refine List.forall_mem_cons.mpr ⟨s_aloadX_n C (by decide +kernel : decode code 672 = .ok (.aload_n 0, 1)) rfl rfl rfl, ?_⟩
  refine List.forall_mem_cons.mpr ⟨s_iload_n C (by decide +kernel : decode code 673 = .ok (.iload_n 3, 1)) rfl rfl rfl, ?_⟩
  refine List.forall_mem_cons.mpr ⟨s_iconst C (by decide +kernel : decode code 674 = .ok (.iconst 2, 1)) rfl rfl (by decide), ?_⟩
  refine List.forall_mem_cons.mpr ⟨s_iadd C (by decide +kernel : decode code 675 = .ok (.iadd, 1)) rfl rfl, ?_⟩
  refine List.forall_mem_cons.mpr ⟨s_sld C hX hbl hbA hσ hL (by decide +kernel : decode code 676 = .ok (.iaload, 1)) rfl rfl, ?_⟩
  refine List.forall_mem_cons.mpr ⟨s_callPV C hFok hF (ct_X10_behind l D dA σ) ⟨rfl, rfl⟩ ew951 em_cl_X10 ew948 ew949 ew950 ew6 ⟨by decide, by decide, by decide +kernel⟩ ⟨by decide, by decide⟩ (by decide +kernel : decode code 677 = .ok (.invokevirtual 91, 3)) rfl rfl (cntL_0 hkc) (by decide), ?_⟩
  refine List.forall_mem_cons.mpr ⟨s_icmpeqW C (by decide +kernel : decode code 680 = .ok (.if_icmp .eq 596, 3)) (by decide) rfl rfl (cntL_le (by decide)), ?_⟩
  refine List.forall_mem_cons.mpr ⟨s_no, ?_⟩
  refine List.forall_mem_cons.mpr ⟨s_no, ?_⟩
  exact fun _ h => absurd h List.not_mem_nil
set_option maxRecDepth 100000 in
set_option maxHeartbeats 4000000 in
theorem snd_L19 {p : Program} {l : Launch} {e : Env} {s : State} {m : MethodId} {b L k : Nat} {xs : Nat → Int32} {below : List Frame} {meth : Method} {c : Code} {D : va_G} {dA : Nat → ClassId} {σ : Nat → Nat} {A : Nat → Prop} {Z : State → Prop} (C : em_Cx p s m #[Value.ref b] c D em_cl A 4 (em_tys dA) code "WedApartLaw") (hFok : em_Fok (em_F σ)) (hF : em_F σ A s s.heap) (hX : va_X b L xs s s.heap) (hbl : b < s.heap.size) (hbA : ¬ A b) (hσ : σ 11 = b) (hL : L < 2 ^ 31) (hkc : k ≤ 64) (Q : em_Q) : ∀ q ∈ T_L19 L xs, em_Snd p l e room_1 s m #[Value.ref b] below meth c D em_cl dA σ A 4 (cntL k) (fun _ => True) Z Q q.1 q.2 := by
  unfold T_L19
  refine List.forall_mem_cons.mpr ⟨s_aload_n C (by decide +kernel : decode code 685 = .ok (.aload_n 1, 1)) rfl rfl rfl, ?_⟩
  refine List.forall_mem_cons.mpr ⟨s_aloadX_n C (by decide +kernel : decode code 686 = .ok (.aload_n 0, 1)) rfl rfl rfl, ?_⟩
  refine List.forall_mem_cons.mpr ⟨s_iload_n C (by decide +kernel : decode code 687 = .ok (.iload_n 3, 1)) rfl rfl rfl, ?_⟩
  refine List.forall_mem_cons.mpr ⟨s_iconst C (by decide +kernel : decode code 688 = .ok (.iconst 1, 1)) rfl rfl (by decide), ?_⟩
  refine List.forall_mem_cons.mpr ⟨s_iadd C (by decide +kernel : decode code 689 = .ok (.iadd, 1)) rfl rfl, ?_⟩
  refine List.forall_mem_cons.mpr ⟨s_sld C hX hbl hbA hσ hL (by decide +kernel : decode code 690 = .ok (.iaload, 1)) rfl rfl, ?_⟩
  refine List.forall_mem_cons.mpr ⟨s_aloadX_n C (by decide +kernel : decode code 691 = .ok (.aload_n 0, 1)) rfl rfl rfl, ?_⟩
  refine List.forall_mem_cons.mpr ⟨s_iload_n C (by decide +kernel : decode code 692 = .ok (.iload_n 3, 1)) rfl rfl rfl, ?_⟩
  refine List.forall_mem_cons.mpr ⟨s_iconst C (by decide +kernel : decode code 693 = .ok (.iconst 2, 1)) rfl rfl (by decide), ?_⟩
  refine List.forall_mem_cons.mpr ⟨s_iadd C (by decide +kernel : decode code 694 = .ok (.iadd, 1)) rfl rfl, ?_⟩
  refine List.forall_mem_cons.mpr ⟨s_sld C hX hbl hbA hσ hL (by decide +kernel : decode code 695 = .ok (.iaload, 1)) rfl rfl, ?_⟩
  refine List.forall_mem_cons.mpr ⟨s_callV C hFok hF (ct_X9_lasts l D dA σ) ⟨rfl, rfl⟩ ew484 em_cl_X9 ew481 ew482 ew483 ew1 ⟨by decide, by decide, by decide +kernel⟩ ⟨by decide, by decide⟩ (by decide +kernel : decode code 696 = .ok (.invokevirtual 92, 3)) rfl rfl (cntL_0 hkc), ?_⟩
  refine List.forall_mem_cons.mpr ⟨s_aload_n C (by decide +kernel : decode code 699 = .ok (.aload_n 2, 1)) rfl rfl rfl, ?_⟩
  refine List.forall_mem_cons.mpr ⟨s_aloadX_n C (by decide +kernel : decode code 700 = .ok (.aload_n 0, 1)) rfl rfl rfl, ?_⟩
  refine List.forall_mem_cons.mpr ⟨s_iload_n C (by decide +kernel : decode code 701 = .ok (.iload_n 3, 1)) rfl rfl rfl, ?_⟩
  refine List.forall_mem_cons.mpr ⟨s_iconst C (by decide +kernel : decode code 702 = .ok (.iconst 1, 1)) rfl rfl (by decide), ?_⟩
  refine List.forall_mem_cons.mpr ⟨s_iadd C (by decide +kernel : decode code 703 = .ok (.iadd, 1)) rfl rfl, ?_⟩
  refine List.forall_mem_cons.mpr ⟨s_sld C hX hbl hbA hσ hL (by decide +kernel : decode code 704 = .ok (.iaload, 1)) rfl rfl, ?_⟩
  refine List.forall_mem_cons.mpr ⟨s_aloadX_n C (by decide +kernel : decode code 705 = .ok (.aload_n 0, 1)) rfl rfl rfl, ?_⟩
  refine List.forall_mem_cons.mpr ⟨s_iload_n C (by decide +kernel : decode code 706 = .ok (.iload_n 3, 1)) rfl rfl rfl, ?_⟩
  refine List.forall_mem_cons.mpr ⟨s_iconst C (by decide +kernel : decode code 707 = .ok (.iconst 2, 1)) rfl rfl (by decide), ?_⟩
  refine List.forall_mem_cons.mpr ⟨s_iadd C (by decide +kernel : decode code 708 = .ok (.iadd, 1)) rfl rfl, ?_⟩
  refine List.forall_mem_cons.mpr ⟨s_sld C hX hbl hbA hσ hL (by decide +kernel : decode code 709 = .ok (.iaload, 1)) rfl rfl, ?_⟩
  refine List.forall_mem_cons.mpr ⟨s_callPV C hFok hF (ct_X10_lasts l D dA σ) ⟨rfl, rfl⟩ ew960 em_cl_X10 ew957 ew958 ew959 ew6 ⟨by decide, by decide, by decide +kernel⟩ ⟨by decide, by decide⟩ (by decide +kernel : decode code 710 = .ok (.invokevirtual 95, 3)) rfl rfl (cntL_0 hkc) (by decide), ?_⟩
  refine List.forall_mem_cons.mpr ⟨s_icmpeqW C (by decide +kernel : decode code 713 = .ok (.if_icmp .eq 563, 3)) (by decide) rfl rfl (cntL_le (by decide)), ?_⟩
  refine List.forall_mem_cons.mpr ⟨s_no, ?_⟩
  refine List.forall_mem_cons.mpr ⟨s_no, ?_⟩
  exact fun _ h => absurd h List.not_mem_nil
