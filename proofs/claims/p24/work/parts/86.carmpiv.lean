set_option maxHeartbeats 4000000 in
set_option maxRecDepth 100000 in
theorem law_armpiv {E : gE} {T : gT} {V : gV} {p : Program} {l : Launch} {e : Env} {s : State} {m : MethodId} {args : Array Value} {below : List Frame} {meth : Method} {c : Code} {ret : Option FieldType} {k n : Nat} {Q : State → Prop} (C : Cx E p s m args meth c RL code 14 ret) {b zi : Nat} {a : Nat} {S : Dk} {h : Nat} {H : Nat → Dk} {r0 : Nat} {ρ : Nat → Nat} (hA : IsAll T a) (g : AVp V a S h H r0 ρ) {cs : Nat → Int32} (ht : TC V (a + 29) cs 0) {f : Nat → Int64} (zr : Rel f S) {kk : Nat} (zg : GI S kk) (zh : ∀ i, i < h → GI (H i) kk) (hk : k ≤ room_1.cells) (hn : n ≤ room_1.slots) {zy : Int32} (hcont : ∀ V2 : gV, zLS V2 a (kk + 1) → KW E T V2 p l e room_1 s m args below meth c 14 k n Q 1037 [(2, .int (nI zi)), (0, .ref b), (1, .ref a)] []) : KW E T V p l e room_1 s m args below meth c 14 k n Q 457 [(4, .int zy), (2, .int (nI zi)), (0, .ref b), (1, .ref a)] [] := by
  have ha := hA.a
  have zn6 := zr.n6
  have zh4 := AVp.le g
  refine k_bipush 457 459 C dL_law_457 rfl (v := 100) rfl ?_
  refine k_aload_n 459 460 C dL_law_459 rfl 3 rfl ?_
  refine k_iconst 460 461 C dL_law_460 rfl (v := 1) rfl ?_
  refine k_callVI 461 464 C [_] [_] dL_law_461 rfl (ct_X3_count hA g ht) mi_X3_count ml_L_9 im_X3_count se_X3_count ci_X3 (IsArm.o ‹_›) rfl rfl ⟨Nat.le_of_ble_eq_true rfl, Nat.le_of_ble_eq_true rfl⟩ (Nat.le_of_ble_eq_true rfl) hk hn (fun r461 V461 p461 => ?_)
  obtain ⟨rfl, rfl⟩ := And.intro p461.1.symm p461.2
  refine k_rwI cCnt_1 ?_
  refine k_imul 464 465 C dL_law_464 rfl  ?_
  refine k_aload_n 465 466 C dL_law_465 rfl 3 rfl ?_
  refine k_iconst 466 467 C dL_law_466 rfl (v := 2) rfl ?_
  refine k_callVI 467 470 C [_] [_] dL_law_467 rfl (ct_X3_count hA g ht) mi_X3_count ml_L_9 im_X3_count se_X3_count ci_X3 (IsArm.o ‹_›) rfl rfl ⟨Nat.le_of_ble_eq_true rfl, Nat.le_of_ble_eq_true rfl⟩ (Nat.le_of_ble_eq_true rfl) hk hn (fun r467 V467 p467 => ?_)
  obtain ⟨rfl, rfl⟩ := And.intro p467.1.symm p467.2
  refine k_rwI cCnt_2 ?_
  refine k_iadd 470 471 C dL_law_470 rfl  ?_
  refine k_istore 471 473 C [(8, _), (4, _), (2, _), (0, _), (1, _)] dL_law_471 rfl (by decide) rfl ?_
  refine k_sipush 473 476 C dL_law_473 rfl (v := 10000) rfl ?_
  refine k_aload_n 476 477 C dL_law_476 rfl 4 rfl ?_
  refine k_iconst 477 478 C dL_law_477 rfl (v := 3) rfl ?_
  refine k_callVI 478 481 C [_] [_] dL_law_478 rfl (ct_X3_count hA g ht) mi_X3_count ml_L_9 im_X3_count se_X3_count ci_X3 (IsArm.o ‹_›) rfl rfl ⟨Nat.le_of_ble_eq_true rfl, Nat.le_of_ble_eq_true rfl⟩ (Nat.le_of_ble_eq_true rfl) hk hn (fun r478 V478 p478 => ?_)
  obtain ⟨rfl, rfl⟩ := And.intro p478.1.symm p478.2
  refine k_rwI cCnt_3 ?_
  refine k_imul 481 482 C dL_law_481 rfl  ?_
  refine k_aload_n 482 483 C dL_law_482 rfl 4 rfl ?_
  refine k_iconst 483 484 C dL_law_483 rfl (v := 4) rfl ?_
  refine k_callVI 484 487 C [_] [_] dL_law_484 rfl (ct_X3_count hA g ht) mi_X3_count ml_L_9 im_X3_count se_X3_count ci_X3 (IsArm.o ‹_›) rfl rfl ⟨Nat.le_of_ble_eq_true rfl, Nat.le_of_ble_eq_true rfl⟩ (Nat.le_of_ble_eq_true rfl) hk hn (fun r484 V484 p484 => ?_)
  obtain ⟨rfl, rfl⟩ := And.intro p484.1.symm p484.2
  refine k_rwI cCnt_4 ?_
  refine k_iadd 487 488 C dL_law_487 rfl  ?_
  refine k_istore 488 490 C [(9, _), (8, _), (4, _), (2, _), (0, _), (1, _)] dL_law_488 rfl (by decide) rfl ?_
  refine k_aload_n 490 491 C dL_law_490 rfl 5 rfl ?_
  refine k_iconst 491 492 C dL_law_491 rfl (v := 1) rfl ?_
  refine k_iload 492 494 C dL_law_492 rfl 2 rfl ?_
  refine k_bipush 494 496 C dL_law_494 rfl (v := 20) rfl ?_
  refine k_callSI 496 499 C [_, _] [_, _] dL_law_496 rfl (ct_L_low (zm := 20) (by omega) (by omega)) mi_L_low ml_L_100 st_L_low rfl rfl ⟨Nat.le_of_ble_eq_true rfl, Nat.le_of_ble_eq_true rfl⟩ (Nat.le_of_ble_eq_true rfl) hk hn (fun r496 V496 p496 => ?_)
  obtain ⟨rfl, rfl⟩ := And.intro p496.1.symm p496.2
  refine k_iadd 499 500 C dL_law_499 rfl  ?_
  refine k_rwI (nI_add 1 _) ?_
  refine k_iconst 500 501 C dL_law_500 rfl (v := 1) rfl ?_
  refine k_iload 501 503 C dL_law_501 rfl 2 rfl ?_
  refine k_iconst 503 504 C dL_law_503 rfl (v := 5) rfl ?_
  refine k_ishr 504 505 C dL_law_504 rfl  ?_
  refine k_bipush 505 507 C dL_law_505 rfl (v := 20) rfl ?_
  refine k_callSI 507 510 C [_, _] [_, _, _] dL_law_507 rfl (ct_L_low (zm := 20) (by omega) (by omega)) mi_L_low ml_L_100 st_L_low rfl rfl ⟨Nat.le_of_ble_eq_true rfl, Nat.le_of_ble_eq_true rfl⟩ (Nat.le_of_ble_eq_true rfl) hk hn (fun r507 V507 p507 => ?_)
  obtain ⟨rfl, rfl⟩ := And.intro p507.1.symm p507.2
  refine k_iadd 510 511 C dL_law_510 rfl  ?_
  refine k_rwI (nI_add 1 _) ?_
  refine k_callVI 511 514 C [_, _] [] dL_law_511 rfl (ct_X3_arm hA g) mi_X3_arm ml_L_53 im_X3_arm se_X3_arm ci_X3 (IsArm.o ‹_›) rfl rfl ⟨Nat.le_of_ble_eq_true rfl, Nat.le_of_ble_eq_true rfl⟩ (Nat.le_of_ble_eq_true rfl) hk hn (fun r511 V511 p511 => ?_)
  have l1 := lw_lt (v := zy) (n := 20) (by decide)
  have l2 := lw_lt (v := zy >>> (5 &&& 31)) (n := 20) (by decide)
  obtain ⟨S1, rfl, ⟨r0511, ρ511, g511, t511⟩, zgS1, e0, e2, e3⟩ := arm_s ht p511 (okN (lo := 1) (hi := 20) (by omega) (by omega) (by decide)) (okN (lo := 1) (hi := 20) (by omega) (by omega) (by decide)) zg
  obtain ⟨fS1, zrS1⟩ := zgS1.1
  have zhS1 := gh_step zh zg zh4
  have z4S1 := (remN_pos h).2 zh4
  refine k_iload 514 516 C dL_law_514 rfl 1 rfl ?_
  refine k_icmp_ne 516 597 519 C dL_law_516 (by decide) rfl (fun h516 => ?_) (fun h516 => ?_)
  · exact absurd rfl h516
  · refine k_aload_n 519 520 C dL_law_519 rfl 5 rfl ?_
    refine k_iconst 520 521 C dL_law_520 rfl (v := 1) rfl ?_
    refine k_callVI 521 524 C [_] [] dL_law_521 rfl (ct_X3_count hA g511 t511) mi_X3_count ml_L_9 im_X3_count se_X3_count ci_X3 (IsArm.o ‹_›) rfl rfl ⟨Nat.le_of_ble_eq_true rfl, Nat.le_of_ble_eq_true rfl⟩ (Nat.le_of_ble_eq_true rfl) hk hn (fun r521 V521 p521 => ?_)
    obtain ⟨rfl, rfl⟩ := And.intro p521.1.symm p521.2
    refine k_rwI (cCnt_1.trans e0) ?_
    refine k_iconst 524 525 C dL_law_524 rfl (v := 1) rfl ?_
    refine k_iload 525 527 C dL_law_525 rfl 2 rfl ?_
    refine k_bipush 527 529 C dL_law_527 rfl (v := 20) rfl ?_
    refine k_callSI 529 532 C [_, _] [_, _] dL_law_529 rfl (ct_L_low (zm := 20) (by omega) (by omega)) mi_L_low ml_L_100 st_L_low rfl rfl ⟨Nat.le_of_ble_eq_true rfl, Nat.le_of_ble_eq_true rfl⟩ (Nat.le_of_ble_eq_true rfl) hk hn (fun r529 V529 p529 => ?_)
    obtain ⟨rfl, rfl⟩ := And.intro p529.1.symm p529.2
    refine k_iadd 532 533 C dL_law_532 rfl  ?_
    refine k_rwI (nI_add 1 _) ?_
    refine k_icmp_ne 533 597 536 C dL_law_533 (by decide) rfl (fun h533 => ?_) (fun h533 => ?_)
    · exact absurd rfl h533
    · refine k_iload 536 538 C dL_law_536 rfl 2 rfl ?_
      refine k_bipush 538 540 C dL_law_538 rfl (v := 10) rfl ?_
      refine k_ishr 540 541 C dL_law_540 rfl  ?_
      refine k_iconst 541 542 C dL_law_541 rfl (v := 2) rfl ?_
      refine k_callSI 542 545 C [_, _] [] dL_law_542 rfl (ct_L_low (zm := 2) (by omega) (by omega)) mi_L_low ml_L_100 st_L_low rfl rfl ⟨Nat.le_of_ble_eq_true rfl, Nat.le_of_ble_eq_true rfl⟩ (Nat.le_of_ble_eq_true rfl) hk hn (fun r542 V542 p542 => ?_)
      obtain ⟨rfl, rfl⟩ := And.intro p542.1.symm p542.2
      refine k_if_ne 545 599 548 C dL_law_545 (by decide) rfl (fun h545 => ?_) (fun h545 => ?_)
      · refine k_goto 599 1037 C dL_law_599 (by decide) ?_
        refine k_perm [3, 4, 5] (L' := [(2, _), (0, _), (1, _)]) rfl ?_
        exact hcont _ (zLS.of g511 t511 zgS1 zhS1 (by omega))
      · refine k_aload_n 548 549 C dL_law_548 rfl 5 rfl ?_
        refine k_iload 549 551 C dL_law_549 rfl 2 rfl ?_
        refine k_bipush 551 553 C dL_law_551 rfl (v := 11) rfl ?_
        refine k_ishr 553 554 C dL_law_553 rfl  ?_
        refine k_sipush 554 557 C dL_law_554 rfl (v := 1001) rfl ?_
        refine k_callSI 557 560 C [_, _] [_] dL_law_557 rfl (ct_L_low (zm := 1001) (by omega) (by omega)) mi_L_low ml_L_100 st_L_low rfl rfl ⟨Nat.le_of_ble_eq_true rfl, Nat.le_of_ble_eq_true rfl⟩ (Nat.le_of_ble_eq_true rfl) hk hn (fun r557 V557 p557 => ?_)
        obtain ⟨rfl, rfl⟩ := And.intro p557.1.symm p557.2
        refine k_iload 560 562 C dL_law_560 rfl 2 rfl ?_
        refine k_iconst 562 563 C dL_law_562 rfl (v := 3) rfl ?_
        refine k_ishr 563 564 C dL_law_563 rfl  ?_
        refine k_sipush 564 567 C dL_law_564 rfl (v := 1001) rfl ?_
        refine k_callSI 567 570 C [_, _] [_, _] dL_law_567 rfl (ct_L_low (zm := 1001) (by omega) (by omega)) mi_L_low ml_L_100 st_L_low rfl rfl ⟨Nat.le_of_ble_eq_true rfl, Nat.le_of_ble_eq_true rfl⟩ (Nat.le_of_ble_eq_true rfl) hk hn (fun r567 V567 p567 => ?_)
        obtain ⟨rfl, rfl⟩ := And.intro p567.1.symm p567.2
        refine k_callVI 570 573 C [_, _] [] dL_law_570 rfl (ct_X3_pivot hA g511) mi_X3_pivot ml_L_57 im_X3_pivot se_X3_pivot ci_X3 (IsArm.o ‹_›) rfl rfl ⟨Nat.le_of_ble_eq_true rfl, Nat.le_of_ble_eq_true rfl⟩ (Nat.le_of_ble_eq_true rfl) hk hn (fun r570 V570 p570 => ?_)
        have l3 := lw_lt (v := zy >>> (11 &&& 31)) (n := 1001) (by decide)
        have l4 := lw_lt (v := zy >>> (3 &&& 31)) (n := 1001) (by decide)
        obtain ⟨S2, rfl, ⟨r0570, ρ570, g570, t570⟩, zgS2, e4⟩ := piv_s t511 p570 (okN (lo := 0) (hi := 1000) (by omega) (by omega) (by decide)) (okN (lo := 0) (hi := 1000) (by omega) (by omega) (by decide)) zgS1
        obtain ⟨fS2, zrS2⟩ := zgS2.1
        have zhS2 := gh_step zhS1 zgS1 z4S1
        have z4S2 := (remN_pos (remN h)).2 z4S1
        refine k_iload 573 575 C dL_law_573 rfl 0 rfl ?_
        refine k_icmp_ne 575 597 578 C dL_law_575 (by decide) rfl (fun h575 => ?_) (fun h575 => ?_)
        · exact absurd (by rw [e2, e3]) h575
        · refine k_aload_n 578 579 C dL_law_578 rfl 5 rfl ?_
          refine k_iconst 579 580 C dL_law_579 rfl (v := 3) rfl ?_
          refine k_callVI 580 583 C [_] [] dL_law_580 rfl (ct_X3_count hA g570 t570) mi_X3_count ml_L_9 im_X3_count se_X3_count ci_X3 (IsArm.o ‹_›) rfl rfl ⟨Nat.le_of_ble_eq_true rfl, Nat.le_of_ble_eq_true rfl⟩ (Nat.le_of_ble_eq_true rfl) hk hn (fun r580 V580 p580 => ?_)
          obtain ⟨rfl, rfl⟩ := And.intro p580.1.symm p580.2
          refine k_rwI (cCnt_3.trans e4) ?_
          refine k_iload 583 585 C dL_law_583 rfl 2 rfl ?_
          refine k_bipush 585 587 C dL_law_585 rfl (v := 11) rfl ?_
          refine k_ishr 587 588 C dL_law_587 rfl  ?_
          refine k_sipush 588 591 C dL_law_588 rfl (v := 1001) rfl ?_
          refine k_callSI 591 594 C [_, _] [_] dL_law_591 rfl (ct_L_low (zm := 1001) (by omega) (by omega)) mi_L_low ml_L_100 st_L_low rfl rfl ⟨Nat.le_of_ble_eq_true rfl, Nat.le_of_ble_eq_true rfl⟩ (Nat.le_of_ble_eq_true rfl) hk hn (fun r591 V591 p591 => ?_)
          obtain ⟨rfl, rfl⟩ := And.intro p591.1.symm p591.2
          refine k_icmp_eq 594 599 597 C dL_law_594 (by decide) rfl (fun h594 => ?_) (fun h594 => ?_)
          · refine k_goto 599 1037 C dL_law_599 (by decide) ?_
            refine k_perm [3, 4, 5] (L' := [(2, _), (0, _), (1, _)]) rfl ?_
            exact hcont _ (zLS.of g570 t570 zgS2 zhS2 (by omega))
          · exact absurd rfl h594
