set_option maxHeartbeats 4000000 in
set_option maxRecDepth 100000 in
theorem law_set {E : gE} {T : gT} {V : gV} {p : Program} {l : Launch} {e : Env} {s : State} {m : MethodId} {args : Array Value} {below : List Frame} {meth : Method} {c : Code} {ret : Option FieldType} {k n : Nat} {Q : State → Prop} (C : Cx E p s m args meth c RL code 14 ret) {b zi : Nat} {a : Nat} {S : Dk} {h : Nat} {H : Nat → Dk} {r0 : Nat} {ρ : Nat → Nat} (hA : IsAll T a) (g : AVp V a S h H r0 ρ) {cs : Nat → Int32} (ht : TC V (a + 29) cs 0) {f : Nat → Int64} (zr : Rel f S) {kk : Nat} (zg : GI S kk) (zh : ∀ i, i < h → GI (H i) kk) (hk : k ≤ room_1.cells) (hn : n ≤ room_1.slots) {zy : Int32} (hcont : ∀ V2 : gV, zLS V2 a (kk + 1) → KW E T V2 p l e room_1 s m args below meth c 14 k n Q 1037 [(2, .int (nI zi)), (0, .ref b), (1, .ref a)] []) : KW E T V p l e room_1 s m args below meth c 14 k n Q 609 [(4, .int zy), (2, .int (nI zi)), (0, .ref b), (1, .ref a)] [] := by
  have ha := hA.a
  have zn6 := zr.n6
  have zh4 := AVp.le g
  have hw5 := lw_lt (v := zy) (n := 5) (by decide)
  have join684 : ∀ (zv : Nat), (okR (nI zv) (leastv (lw zy 5)) (mostv (lw zy 5))) → KW E T V p l e room_1 s m args below meth c 14 k n Q 684 [(9, .int (zy >>> (3 &&& 31))), (8, .int (nI (lw zy 5))), (4, .int zy), (2, .int (nI zi)), (0, .ref b), (1, .ref a)] [.int (nI zv)] := by
    intro zv hzv
    refine k_istore 684 686 C [(10, _), (9, _), (8, _), (4, _), (2, _), (0, _), (1, _)] dL_law_684 rfl (by decide) rfl ?_
    refine k_aload_n 686 687 C dL_law_686 rfl 6 rfl ?_
    refine k_iconst 687 688 C dL_law_687 rfl (v := 5) rfl ?_
    refine k_iload 688 690 C dL_law_688 rfl 2 rfl ?_
    refine k_iadd 690 691 C dL_law_690 rfl  ?_
    refine k_rwI (nI_add 5 _) ?_
    refine k_callVI 691 694 C [_] [] dL_law_691 rfl (ct_X3_count hA g ht) mi_X3_count ml_L_9 im_X3_count se_X3_count ci_X3 (IsArm.o ‹_›) rfl rfl ⟨Nat.le_of_ble_eq_true rfl, Nat.le_of_ble_eq_true rfl⟩ (Nat.le_of_ble_eq_true rfl) hk hn (fun r691 V691 p691 => ?_)
    obtain ⟨rfl, rfl⟩ := And.intro p691.1.symm p691.2
    refine k_rwI (cCnt_set hw5) ?_
    refine k_istore 694 696 C [(11, _), (10, _), (9, _), (8, _), (4, _), (2, _), (0, _), (1, _)] dL_law_694 rfl (by decide) rfl ?_
    refine k_aload_n 696 697 C dL_law_696 rfl 7 rfl ?_
    refine k_iload 697 699 C dL_law_697 rfl 3 rfl ?_
    refine k_iload 699 701 C dL_law_699 rfl 1 rfl ?_
    refine k_callVI 701 704 C [_, _] [] dL_law_701 rfl (ct_X3_set hA g) mi_X3_set ml_L_60 im_X3_set se_X3_set ci_X3 (IsArm.o ‹_›) rfl rfl ⟨Nat.le_of_ble_eq_true rfl, Nat.le_of_ble_eq_true rfl⟩ (Nat.le_of_ble_eq_true rfl) hk hn (fun r701 V701 p701 => ?_)
    obtain ⟨S1, rfl, ⟨r0701, ρ701, g701, t701⟩, zgS1, e0⟩ := set_s ht p701 hw5 hzv zg
    obtain ⟨fS1, zrS1⟩ := zgS1.1
    have zhS1 := gh_step zh zg zh4
    have z4S1 := (remN_pos h).2 zh4
    refine k_iload 704 706 C dL_law_704 rfl 0 rfl ?_
    refine k_icmp_ne 706 754 709 C dL_law_706 (by decide) rfl (fun h706 => ?_) (fun h706 => ?_)
    · exact absurd rfl h706
    · refine k_aload_n 709 710 C dL_law_709 rfl 7 rfl ?_
      refine k_iconst 710 711 C dL_law_710 rfl (v := 5) rfl ?_
      refine k_iload 711 713 C dL_law_711 rfl 3 rfl ?_
      refine k_iadd 713 714 C dL_law_713 rfl  ?_
      refine k_rwI (nI_add 5 _) ?_
      refine k_callVI 714 717 C [_] [] dL_law_714 rfl (ct_X3_count hA g701 t701) mi_X3_count ml_L_9 im_X3_count se_X3_count ci_X3 (IsArm.o ‹_›) rfl rfl ⟨Nat.le_of_ble_eq_true rfl, Nat.le_of_ble_eq_true rfl⟩ (Nat.le_of_ble_eq_true rfl) hk hn (fun r714 V714 p714 => ?_)
      obtain ⟨rfl, rfl⟩ := And.intro p714.1.symm p714.2
      refine k_rwI ((cCnt_set hw5).trans e0) ?_
      refine k_iload 717 719 C dL_law_717 rfl 1 rfl ?_
      refine k_icmp_ne 719 754 722 C dL_law_719 (by decide) rfl (fun h719 => ?_) (fun h719 => ?_)
      · exact absurd rfl h719
      · refine k_iload 722 724 C dL_law_722 rfl 4 rfl ?_
        refine k_bipush 724 726 C dL_law_724 rfl (v := 20) rfl ?_
        refine k_ishr 726 727 C dL_law_726 rfl  ?_
        refine k_iconst 727 728 C dL_law_727 rfl (v := 3) rfl ?_
        refine k_callSI 728 731 C [_, _] [] dL_law_728 rfl (ct_L_low (zm := 3) (by omega) (by omega)) mi_L_low ml_L_100 st_L_low rfl rfl ⟨Nat.le_of_ble_eq_true rfl, Nat.le_of_ble_eq_true rfl⟩ (Nat.le_of_ble_eq_true rfl) hk hn (fun r728 V728 p728 => ?_)
        obtain ⟨rfl, rfl⟩ := And.intro p728.1.symm p728.2
        refine k_if_ne 731 756 734 C dL_law_731 (by decide) rfl (fun h731 => ?_) (fun h731 => ?_)
        · refine k_goto 756 1037 C dL_law_756 (by decide) ?_
          refine k_perm [5, 6, 7] (L' := [(2, _), (0, _), (1, _)]) rfl ?_
          exact hcont _ (zLS.of g701 t701 zgS1 zhS1 (by omega))
        · refine k_aload_n 734 735 C dL_law_734 rfl 7 rfl ?_
          refine k_callVI 735 738 C [] [] dL_law_735 rfl (ct_X3_undo hA g701) mi_X3_undo ml_L_86 im_X3_undo se_X3_undo ci_X3 (IsArm.o ‹_›) rfl rfl ⟨Nat.le_of_ble_eq_true rfl, Nat.le_of_ble_eq_true rfl⟩ (Nat.le_of_ble_eq_true rfl) hk hn (fun r735 V735 p735 => ?_)
          obtain ⟨rfl, r0735, ρ735, g735, t735⟩ := sq_undo t701 p735
          have zrp := remN_pos h
          refine k_if_lt 738 754 741 C dL_law_738 (by decide) rfl (fun h738 => ?_) (fun h738 => ?_)
          · exact absurd h738 (nI_pos (by omega))
          · refine k_aload_n 741 742 C dL_law_741 rfl 7 rfl ?_
            refine k_iconst 742 743 C dL_law_742 rfl (v := 5) rfl ?_
            refine k_iload 743 745 C dL_law_743 rfl 3 rfl ?_
            refine k_iadd 745 746 C dL_law_745 rfl  ?_
            refine k_rwI (nI_add 5 _) ?_
            refine k_callVI 746 749 C [_] [] dL_law_746 rfl (ct_X3_count hA g735 t735) mi_X3_count ml_L_9 im_X3_count se_X3_count ci_X3 (IsArm.o ‹_›) rfl rfl ⟨Nat.le_of_ble_eq_true rfl, Nat.le_of_ble_eq_true rfl⟩ (Nat.le_of_ble_eq_true rfl) hk hn (fun r746 V746 p746 => ?_)
            obtain ⟨rfl, rfl⟩ := And.intro p746.1.symm p746.2
            refine k_rwI (cCnt_set hw5) ?_
            refine k_iload 749 751 C dL_law_749 rfl 0 rfl ?_
            refine k_icmp_eq 751 756 754 C dL_law_751 (by decide) rfl (fun h751 => ?_) (fun h751 => ?_)
            · refine k_goto 756 1037 C dL_law_756 (by decide) ?_
              refine k_perm [5, 6, 7] (L' := [(2, _), (0, _), (1, _)]) rfl ?_
              exact hcont _ (zLS.of g735 t735 zg (fun i hi => zhS1 i (by omega)) (by omega))
            · exact absurd rfl h751
  refine k_iload 609 611 C dL_law_609 rfl 0 rfl ?_
  refine k_iconst 611 612 C dL_law_611 rfl (v := 5) rfl ?_
  refine k_callSI 612 615 C [_, _] [] dL_law_612 rfl (ct_L_low (zm := 5) (by omega) (by omega)) mi_L_low ml_L_100 st_L_low rfl rfl ⟨Nat.le_of_ble_eq_true rfl, Nat.le_of_ble_eq_true rfl⟩ (Nat.le_of_ble_eq_true rfl) hk hn (fun r612 V612 p612 => ?_)
  obtain ⟨rfl, rfl⟩ := And.intro p612.1.symm p612.2
  refine k_istore 615 617 C [(8, _), (4, _), (2, _), (0, _), (1, _)] dL_law_615 rfl (by decide) rfl ?_
  refine k_iload 617 619 C dL_law_617 rfl 1 rfl ?_
  refine k_iconst 619 620 C dL_law_619 rfl (v := 3) rfl ?_
  refine k_ishr 620 621 C dL_law_620 rfl  ?_
  refine k_istore 621 623 C [(9, _), (8, _), (4, _), (2, _), (0, _), (1, _)] dL_law_621 rfl (by decide) rfl ?_
  refine k_iload 623 625 C dL_law_623 rfl 1 rfl ?_
  refine k_if_ne 625 637 628 C dL_law_625 (by decide) rfl (fun h625 => ?_) (fun h625 => ?_)
  · have z0 : ¬ lw zy 5 = 0 := fun zz => h625 (by rw [zz]; rfl)
    refine k_iload 637 639 C dL_law_637 rfl 1 rfl ?_
    refine k_iconst 639 640 C dL_law_639 rfl (v := 1) rfl ?_
    refine k_icmp_ne 640 653 643 C dL_law_640 (by decide) rfl (fun h640 => ?_) (fun h640 => ?_)
    · have z1 : ¬ lw zy 5 = 1 := fun zz => h640 (by rw [zz]; rfl)
      refine k_iload 653 655 C dL_law_653 rfl 1 rfl ?_
      refine k_iconst 655 656 C dL_law_655 rfl (v := 4) rfl ?_
      refine k_icmp_ge 656 674 659 C dL_law_656 (by decide) rfl (fun h656 => ?_) (fun h656 => ?_)
      · have z4 : lw zy 5 = 4 := by have z := (nI_leI (a := 4) (b := lw zy 5) (by decide) (by omega)).mp h656; omega
        refine k_iconst 674 675 C dL_law_674 rfl (v := 1) rfl ?_
        refine k_iload 675 677 C dL_law_675 rfl 0 rfl ?_
        refine k_sipush 677 680 C dL_law_677 rfl (v := 300) rfl ?_
        refine k_callSI 680 683 C [_, _] [_] dL_law_680 rfl (ct_L_low (zm := 300) (by omega) (by omega)) mi_L_low ml_L_100 st_L_low rfl rfl ⟨Nat.le_of_ble_eq_true rfl, Nat.le_of_ble_eq_true rfl⟩ (Nat.le_of_ble_eq_true rfl) hk hn (fun r680 V680 p680 => ?_)
        obtain ⟨rfl, rfl⟩ := And.intro p680.1.symm p680.2
        refine k_iadd 683 684 C dL_law_683 rfl  ?_
        refine k_rwI (nI_add 1 _) ?_
        exact join684 (1 + lw (zy >>> (3 &&& 31)) 300) (by rw [z4]; exact set_4 (lw_lt (by decide)))
      · have z4 : lw zy 5 = 2 ∨ lw zy 5 = 3 := by
          have z : ¬ 4 ≤ lw zy 5 := fun zz => h656 ((nI_leI (a := 4) (b := lw zy 5) (by decide) (by omega)).mpr zz)
          omega
        refine k_sipush 659 662 C dL_law_659 rfl (v := 200) rfl ?_
        refine k_iload 662 664 C dL_law_662 rfl 0 rfl ?_
        refine k_sipush 664 667 C dL_law_664 rfl (v := 801) rfl ?_
        refine k_callSI 667 670 C [_, _] [_] dL_law_667 rfl (ct_L_low (zm := 801) (by omega) (by omega)) mi_L_low ml_L_100 st_L_low rfl rfl ⟨Nat.le_of_ble_eq_true rfl, Nat.le_of_ble_eq_true rfl⟩ (Nat.le_of_ble_eq_true rfl) hk hn (fun r667 V667 p667 => ?_)
        obtain ⟨rfl, rfl⟩ := And.intro p667.1.symm p667.2
        refine k_iadd 670 671 C dL_law_670 rfl  ?_
        refine k_rwI (nI_add 200 _) ?_
        refine k_goto 671 684 C dL_law_671 (by decide) ?_
        exact join684 (200 + lw (zy >>> (3 &&& 31)) 801) (set_2 z4 (lw_lt (by decide)))
    · have z1 : lw zy 5 = 1 := (nI_eq (a := lw zy 5) (b := 1) (by omega) (by decide)).mp h640
      refine k_iload 643 645 C dL_law_643 rfl 0 rfl ?_
      refine k_bipush 645 647 C dL_law_645 rfl (v := 51) rfl ?_
      refine k_callSI 647 650 C [_, _] [] dL_law_647 rfl (ct_L_low (zm := 51) (by omega) (by omega)) mi_L_low ml_L_100 st_L_low rfl rfl ⟨Nat.le_of_ble_eq_true rfl, Nat.le_of_ble_eq_true rfl⟩ (Nat.le_of_ble_eq_true rfl) hk hn (fun r647 V647 p647 => ?_)
      obtain ⟨rfl, rfl⟩ := And.intro p647.1.symm p647.2
      refine k_goto 650 684 C dL_law_650 (by decide) ?_
      exact join684 (lw (zy >>> (3 &&& 31)) 51) (by rw [z1]; exact set_1 (lw_lt (by decide)))
  · have z0 : lw zy 5 = 0 := (nI_eq (a := lw zy 5) (b := 0) (by omega) (by decide)).mp h625
    refine k_iload 628 630 C dL_law_628 rfl 0 rfl ?_
    refine k_iconst 630 631 C dL_law_630 rfl (v := 3) rfl ?_
    refine k_callSI 631 634 C [_, _] [] dL_law_631 rfl (ct_L_low (zm := 3) (by omega) (by omega)) mi_L_low ml_L_100 st_L_low rfl rfl ⟨Nat.le_of_ble_eq_true rfl, Nat.le_of_ble_eq_true rfl⟩ (Nat.le_of_ble_eq_true rfl) hk hn (fun r631 V631 p631 => ?_)
    obtain ⟨rfl, rfl⟩ := And.intro p631.1.symm p631.2
    refine k_goto 634 684 C dL_law_634 (by decide) ?_
    exact join684 (lw (zy >>> (3 &&& 31)) 3) (by rw [z0]; exact set_0 (lw_lt (by decide)))
