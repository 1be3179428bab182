theorem cWhy_is {f : Nat → Int64} {S : Dk} {d : Nat} (zr : Rel f S) (hd : d < kn S) : cWhy S (nI d) = rsn S (nI d) (kdr S d) := by
  have n6 := zr.n6
  unfold cWhy
  rw [if_pos (jin n6 hd), nI_clamp (show d < 2 ^ 31 by omega)]
set_option maxHeartbeats 4000000 in
set_option maxRecDepth 100000 in
theorem ct_L_copies {E : gE} {T : gT} {l : Launch} {V : gV} {a : Nat} {S : Dk} {h : Nat} {H : Nat → Dk} {r0 : Nat} {ρ : Nat → Nat} (hA : IsAll T a) (g : AVp V a S h H r0 ρ) {cs : Nat → Int32} (ht : TC V (a + 29) cs 0) {f : Nat → Int64} (zr : Rel f S) {zd kk : Nat} (hzd : zd < kn S) (zg : GI S kk) : CtI E T l yL_copies (gw yL_copies cL_copies 41 (some .boolean)) { frames := 6, cells := 0, slots := 0, locals := 138 } [.ref a, .int (nI zd)] V (fun (r : Int32) (V' : gV) => r = 1 ∧ (SQ V' a S h H ∨ ∃ S', SQ V' a S' (remN h) (remH S h H) ∧ GI S' (kk + 1) ∧ kn S' = kn S + 1)) := by
  refine ctI_of (L := [(0, .ref a), (1, .int (nI zd))]) (by decide) rfl (Nat.le_of_ble_eq_true rfl) rfl (fun p e s m args below meth c C => ?_)
  have ha := hA.a
  have zn6 := zr.n6
  have z20 := zr.n20 zd hzd
  refine k_aload_n 0 1 C dL_copies_0 rfl 0 rfl ?_
  refine k_iload_n 1 2 C dL_copies_1 rfl 1 rfl ?_
  refine k_callVI 2 5 C [_] [] dL_copies_2 rfl (ct_X3_why hA g) mi_X3_why ml_L_46 im_X3_why se_X3_why ci_X3 (IsArm.o ‹_›) rfl rfl ⟨Nat.le_of_ble_eq_true rfl, Nat.le_of_ble_eq_true rfl⟩ (Nat.le_of_ble_eq_true rfl) (Nat.zero_le _) (Nat.zero_le _) (fun r2 V2 p2 => ?_)
  obtain ⟨rfl, r02, ρ2, g2, t2⟩ := sq_why ht ⟨p2.1.trans (cWhy_is zr hzd), p2.2⟩
  refine k_istore_n 5 6 C [(2, _), (0, _), (1, _)] dL_copies_5 rfl (by decide) rfl ?_
  refine k_aload_n 6 7 C dL_copies_6 rfl 1 rfl ?_
  refine k_iconst 7 8 C dL_copies_7 rfl (v := 0) rfl ?_
  refine k_callVI 8 11 C [_] [] dL_copies_8 rfl (ct_X3_count hA g2 t2) mi_X3_count ml_L_9 im_X3_count se_X3_count ci_X3 (IsArm.o ‹_›) rfl rfl ⟨Nat.le_of_ble_eq_true rfl, Nat.le_of_ble_eq_true rfl⟩ (Nat.le_of_ble_eq_true rfl) (Nat.zero_le _) (Nat.zero_le _) (fun r8 V8 p8 => ?_)
  obtain ⟨rfl, rfl⟩ := And.intro p8.1.symm p8.2
  refine k_rwI (y := nI (kn (S))) cCnt_0 ?_
  refine k_istore_n 11 12 C [(3, _), (2, _), (0, _), (1, _)] dL_copies_11 rfl (by decide) rfl ?_
  refine k_aload_n 12 13 C dL_copies_12 rfl 2 rfl ?_
  refine k_iload_n 13 14 C dL_copies_13 rfl 3 rfl ?_
  refine k_iconst 14 15 C dL_copies_14 rfl (v := 0) rfl ?_
  refine k_callVI 15 18 C [_, _] [] dL_copies_15 rfl (ct_X3_drawing hA g2 (dr_nice zr)) mi_X3_drawing ml_L_15 im_X3_drawing se_X3_drawing ci_X3 (IsArm.o ‹_›) rfl rfl ⟨Nat.le_of_ble_eq_true rfl, Nat.le_of_ble_eq_true rfl⟩ (Nat.le_of_ble_eq_true rfl) (Nat.zero_le _) (Nat.zero_le _) (fun r15 V15 p15 => ?_)
  obtain ⟨rfl, rfl⟩ := And.intro p15.1.symm p15.2
  refine k_rwI (dg_0 zr hzd) ?_
  refine k_istore 18 20 C [(4, _), (3, _), (2, _), (0, _), (1, _)] dL_copies_18 rfl (by decide) rfl ?_
  refine k_aload_n 20 21 C dL_copies_20 rfl 3 rfl ?_
  refine k_bipush 21 23 C dL_copies_21 rfl (v := 10) rfl ?_
  refine k_callVI 23 26 C [_] [] dL_copies_23 rfl (ct_X3_count hA g2 t2) mi_X3_count ml_L_9 im_X3_count se_X3_count ci_X3 (IsArm.o ‹_›) rfl rfl ⟨Nat.le_of_ble_eq_true rfl, Nat.le_of_ble_eq_true rfl⟩ (Nat.le_of_ble_eq_true rfl) (Nat.zero_le _) (Nat.zero_le _) (fun r23 V23 p23 => ?_)
  obtain ⟨rfl, rfl⟩ := And.intro p23.1.symm p23.2
  refine k_rwI cCnt_10 ?_
  refine k_istore 26 28 C [(5, _), (4, _), (3, _), (2, _), (0, _), (1, _)] dL_copies_26 rfl (by decide) rfl ?_
  refine k_aload_n 28 29 C dL_copies_28 rfl 4 rfl ?_
  refine k_bipush 29 31 C dL_copies_29 rfl (v := 13) rfl ?_
  refine k_callVI 31 34 C [_] [] dL_copies_31 rfl (ct_X3_count hA g2 t2) mi_X3_count ml_L_9 im_X3_count se_X3_count ci_X3 (IsArm.o ‹_›) rfl rfl ⟨Nat.le_of_ble_eq_true rfl, Nat.le_of_ble_eq_true rfl⟩ (Nat.le_of_ble_eq_true rfl) (Nat.zero_le _) (Nat.zero_le _) (fun r31 V31 p31 => ?_)
  obtain ⟨rfl, rfl⟩ := And.intro p31.1.symm p31.2
  refine k_rwI cCnt_13 ?_
  refine k_istore 34 36 C [(6, _), (5, _), (4, _), (3, _), (2, _), (0, _), (1, _)] dL_copies_34 rfl (by decide) rfl ?_
  refine k_aload_n 36 37 C dL_copies_36 rfl 5 rfl ?_
  refine k_bipush 37 39 C dL_copies_37 rfl (v := 14) rfl ?_
  refine k_callVI 39 42 C [_] [] dL_copies_39 rfl (ct_X3_count hA g2 t2) mi_X3_count ml_L_9 im_X3_count se_X3_count ci_X3 (IsArm.o ‹_›) rfl rfl ⟨Nat.le_of_ble_eq_true rfl, Nat.le_of_ble_eq_true rfl⟩ (Nat.le_of_ble_eq_true rfl) (Nat.zero_le _) (Nat.zero_le _) (fun r39 V39 p39 => ?_)
  obtain ⟨rfl, rfl⟩ := And.intro p39.1.symm p39.2
  refine k_rwI cCnt_14 ?_
  refine k_istore 42 44 C [(7, _), (6, _), (5, _), (4, _), (3, _), (2, _), (0, _), (1, _)] dL_copies_42 rfl (by decide) rfl ?_
  refine k_aload_n 44 45 C dL_copies_44 rfl 6 rfl ?_
  refine k_bipush 45 47 C dL_copies_45 rfl (v := 15) rfl ?_
  refine k_callVI 47 50 C [_] [] dL_copies_47 rfl (ct_X3_count hA g2 t2) mi_X3_count ml_L_9 im_X3_count se_X3_count ci_X3 (IsArm.o ‹_›) rfl rfl ⟨Nat.le_of_ble_eq_true rfl, Nat.le_of_ble_eq_true rfl⟩ (Nat.le_of_ble_eq_true rfl) (Nat.zero_le _) (Nat.zero_le _) (fun r47 V47 p47 => ?_)
  obtain ⟨rfl, rfl⟩ := And.intro p47.1.symm p47.2
  refine k_rwI cCnt_15 ?_
  refine k_istore 50 52 C [(8, _), (7, _), (6, _), (5, _), (4, _), (3, _), (2, _), (0, _), (1, _)] dL_copies_50 rfl (by decide) rfl ?_
  refine k_aload_n 52 53 C dL_copies_52 rfl 7 rfl ?_
  refine k_iload_n 53 54 C dL_copies_53 rfl 8 rfl ?_
  refine k_callVI 54 57 C [_] [] dL_copies_54 rfl (ct_X3_copy hA g2) mi_X3_copy ml_L_49 im_X3_copy se_X3_copy ci_X3 (IsArm.o ‹_›) rfl rfl ⟨Nat.le_of_ble_eq_true rfl, Nat.le_of_ble_eq_true rfl⟩ (Nat.le_of_ble_eq_true rfl) (Nat.zero_le _) (Nat.zero_le _) (fun r54 V54 p54 => ?_)
  by_cases hw0 : rsn S (nI zd) (kdr S zd) = 0
  · obtain ⟨rfl, r054, ρ54, g54, t54⟩ := sq_yes t2 p54 (show cCpy S (nI zd) = (nI (kn S), some (kepS S (trD S (nI zd) (kdr S zd)))) by unfold cCpy; rw [nI_clamp (show zd < 2 ^ 31 by omega), if_neg (fun zz => zz (jin zn6 hzd)), if_neg (fun zz => zz hw0)])
    obtain ⟨T', cf⟩ := cpF_all zg hzd hw0
    generalize kepS S (trD S (nI zd) (kdr S zd)) = S1 at g54 cf
    have zg1 := cf.2.2.2.2.2.2
    obtain ⟨f1, zr1⟩ := zg1.1
    have zn1 : kn S1 = kn S + 1 := cf.1.2.1
    have hz6 : kn S < 6 := cf.1.1
    have zkf := cf.2.1
    have zks : ks S1 = ks S := cf.1.2.2
    have hzd1 : zd < kn S1 := by omega
    have hzn : kn S < kn S1 := by omega
    have kdD : kdr S1 zd = kdr S zd := cf.2.2.1.1 zd hzd
    have kdT : kdr S1 (kn S) = T' := cf.2.2.1.2
    have ztf := (zg.2.1 zd hzd).2
    have ztf1 : tooF T' = false := by rw [← kdT]; exact (zg1.2.1 (kn S) hzn).2
    obtain ⟨⟨zfr, zrn⟩, ⟨zc1, zc2⟩, ⟨zs1, zs2⟩, ⟨ze7, ze8, ze5, ze9⟩, znw, zb1, zb2, zb3⟩ := cq_all zr hzd cf hw0
    have zj1 := rj_J zr1 hzd1 kdD
    have zj2 := rj_J zr1 hzn kdT
    refine k_istore 57 59 C [(9, _), (8, _), (7, _), (6, _), (5, _), (4, _), (3, _), (2, _), (0, _), (1, _)] dL_copies_57 rfl (by decide) rfl ?_
    refine k_iload_n 59 60 C dL_copies_59 rfl 7 rfl ?_
    refine k_if_eq 60 161 63 C dL_copies_60 (by decide) rfl (fun h60 => ?_) (fun h60 => ?_)
    · have loop361 : ∀ (f361 : Nat) (zp : Nat), rn (kdr S zd) - zp = f361 → (zp ≤ rn (kdr S zd)) → KW E T V54 p l e { frames := 6, cells := 0, slots := 0, locals := 138 } s m args below meth c 41 0 0 (MQ below (va_Qi (fun (r : Int32) (V' : gV) => r = 1 ∧ (SQ V' a S h H ∨ ∃ S', SQ V' a S' (remN h) (remH S h H) ∧ GI S' (kk + 1) ∧ kn S' = kn S + 1)) (RepS E T) (gA E)) args s 0 0 (gA E)) 361 [(18, .int (nI zp)), (17, .int (nI (jnN T' zp))), (0, .ref a), (1, .int (nI zd)), (3, .int (nI (kn S))), (4, .int (nI (rn (kdr S zd)))), (5, .int (kf S 5)), (6, .int (kf S 7)), (7, .int (kf S 8)), (8, .int (kf S 9)), (9, .int (nI (kn S))), (10, .int (kf S 0)), (11, .int (kf S 1)), (15, .int (sgX S)), (16, .int (sgY S))] [] := by
        intro f361
        induction f361 using Nat.strongRecOn with
        | _ f361 ih361 =>
        intro zp hf361 hpl
        have z20 := zr.n20 zd hzd
        refine k_iload 361 363 C dL_copies_361 rfl 0 rfl ?_
        refine k_iload 363 365 C dL_copies_363 rfl 5 rfl ?_
        refine k_icmp_ge 365 639 368 C dL_copies_365 (by decide) rfl (fun h365 => ?_) (fun h365 => ?_)
        · obtain rfl : zp = rn (kdr S zd) := by have z := (nI_leI (a := rn (kdr S zd)) (b := zp) (by omega) (by omega)).mp h365; omega
          refine k_aload_n 639 640 C dL_copies_639 rfl 2 rfl ?_
          refine k_bipush 640 642 C dL_copies_640 rfl (v := 13) rfl ?_
          refine k_callVI 642 645 C [_] [] dL_copies_642 rfl (ct_X3_count hA g54 t54) mi_X3_count ml_L_9 im_X3_count se_X3_count ci_X3 (IsArm.o ‹_›) rfl rfl ⟨Nat.le_of_ble_eq_true rfl, Nat.le_of_ble_eq_true rfl⟩ (Nat.le_of_ble_eq_true rfl) (Nat.zero_le _) (Nat.zero_le _) (fun r642 V642 p642 => ?_)
          obtain ⟨rfl, rfl⟩ := And.intro p642.1.symm p642.2
          refine k_rwI cCnt_13 ?_
          refine k_iload 645 647 C dL_copies_645 rfl 7 rfl ?_
          refine k_aload_n 647 648 C dL_copies_647 rfl 2 rfl ?_
          refine k_iload 648 650 C dL_copies_648 rfl 10 rfl ?_
          refine k_bipush 650 652 C dL_copies_650 rfl (v := 6) rfl ?_
          refine k_callVI 652 655 C [_, _] [_, _] dL_copies_652 rfl (ct_X3_drawing hA g54 (dr_nice zr1)) mi_X3_drawing ml_L_15 im_X3_drawing se_X3_drawing ci_X3 (IsArm.o ‹_›) rfl rfl ⟨Nat.le_of_ble_eq_true rfl, Nat.le_of_ble_eq_true rfl⟩ (Nat.le_of_ble_eq_true rfl) (Nat.zero_le _) (Nat.zero_le _) (fun r652 V652 p652 => ?_)
          obtain ⟨rfl, rfl⟩ := And.intro p652.1.symm p652.2
          refine k_rwI (dj_6 zr1 hzn kdT) ?_
          refine k_iadd 655 656 C dL_copies_655 rfl  ?_
          refine k_icmp_ne 656 736 659 C dL_copies_656 (by decide) rfl (fun h656 => ?_) (fun h656 => ?_)
          · exact absurd ze7 h656
          · refine k_aload_n 659 660 C dL_copies_659 rfl 2 rfl ?_
            refine k_bipush 660 662 C dL_copies_660 rfl (v := 14) rfl ?_
            refine k_callVI 662 665 C [_] [] dL_copies_662 rfl (ct_X3_count hA g54 t54) mi_X3_count ml_L_9 im_X3_count se_X3_count ci_X3 (IsArm.o ‹_›) rfl rfl ⟨Nat.le_of_ble_eq_true rfl, Nat.le_of_ble_eq_true rfl⟩ (Nat.le_of_ble_eq_true rfl) (Nat.zero_le _) (Nat.zero_le _) (fun r662 V662 p662 => ?_)
            obtain ⟨rfl, rfl⟩ := And.intro p662.1.symm p662.2
            refine k_rwI cCnt_14 ?_
            refine k_iload 665 667 C dL_copies_665 rfl 8 rfl ?_
            refine k_aload_n 667 668 C dL_copies_667 rfl 2 rfl ?_
            refine k_iload 668 670 C dL_copies_668 rfl 10 rfl ?_
            refine k_bipush 670 672 C dL_copies_670 rfl (v := 7) rfl ?_
            refine k_callVI 672 675 C [_, _] [_, _] dL_copies_672 rfl (ct_X3_drawing hA g54 (dr_nice zr1)) mi_X3_drawing ml_L_15 im_X3_drawing se_X3_drawing ci_X3 (IsArm.o ‹_›) rfl rfl ⟨Nat.le_of_ble_eq_true rfl, Nat.le_of_ble_eq_true rfl⟩ (Nat.le_of_ble_eq_true rfl) (Nat.zero_le _) (Nat.zero_le _) (fun r672 V672 p672 => ?_)
            obtain ⟨rfl, rfl⟩ := And.intro p672.1.symm p672.2
            refine k_rwI (dj_7 zr1 hzn kdT) ?_
            refine k_iadd 675 676 C dL_copies_675 rfl  ?_
            refine k_icmp_ne 676 736 679 C dL_copies_676 (by decide) rfl (fun h676 => ?_) (fun h676 => ?_)
            · exact absurd ze8 h676
            · refine k_aload_n 679 680 C dL_copies_679 rfl 2 rfl ?_
              refine k_bipush 680 682 C dL_copies_680 rfl (v := 10) rfl ?_
              refine k_callVI 682 685 C [_] [] dL_copies_682 rfl (ct_X3_count hA g54 t54) mi_X3_count ml_L_9 im_X3_count se_X3_count ci_X3 (IsArm.o ‹_›) rfl rfl ⟨Nat.le_of_ble_eq_true rfl, Nat.le_of_ble_eq_true rfl⟩ (Nat.le_of_ble_eq_true rfl) (Nat.zero_le _) (Nat.zero_le _) (fun r682 V682 p682 => ?_)
              obtain ⟨rfl, rfl⟩ := And.intro p682.1.symm p682.2
              refine k_rwI cCnt_10 ?_
              refine k_iload 685 687 C dL_copies_685 rfl 6 rfl ?_
              refine k_aload_n 687 688 C dL_copies_687 rfl 2 rfl ?_
              refine k_iload 688 690 C dL_copies_688 rfl 10 rfl ?_
              refine k_bipush 690 692 C dL_copies_690 rfl (v := 7) rfl ?_
              refine k_callVI 692 695 C [_, _] [_, _] dL_copies_692 rfl (ct_X3_drawing hA g54 (dr_nice zr1)) mi_X3_drawing ml_L_15 im_X3_drawing se_X3_drawing ci_X3 (IsArm.o ‹_›) rfl rfl ⟨Nat.le_of_ble_eq_true rfl, Nat.le_of_ble_eq_true rfl⟩ (Nat.le_of_ble_eq_true rfl) (Nat.zero_le _) (Nat.zero_le _) (fun r692 V692 p692 => ?_)
              obtain ⟨rfl, rfl⟩ := And.intro p692.1.symm p692.2
              refine k_rwI (dj_7 zr1 hzn kdT) ?_
              refine k_iadd 695 696 C dL_copies_695 rfl  ?_
              refine k_icmp_ne 696 736 699 C dL_copies_696 (by decide) rfl (fun h696 => ?_) (fun h696 => ?_)
              · exact absurd ze5 h696
              · refine k_aload_n 699 700 C dL_copies_699 rfl 2 rfl ?_
                refine k_bipush 700 702 C dL_copies_700 rfl (v := 15) rfl ?_
                refine k_callVI 702 705 C [_] [] dL_copies_702 rfl (ct_X3_count hA g54 t54) mi_X3_count ml_L_9 im_X3_count se_X3_count ci_X3 (IsArm.o ‹_›) rfl rfl ⟨Nat.le_of_ble_eq_true rfl, Nat.le_of_ble_eq_true rfl⟩ (Nat.le_of_ble_eq_true rfl) (Nat.zero_le _) (Nat.zero_le _) (fun r702 V702 p702 => ?_)
                obtain ⟨rfl, rfl⟩ := And.intro p702.1.symm p702.2
                refine k_rwI cCnt_15 ?_
                refine k_iload 705 707 C dL_copies_705 rfl 9 rfl ?_
                refine k_iload 707 709 C dL_copies_707 rfl 1 rfl ?_
                refine k_iadd 709 710 C dL_copies_709 rfl  ?_
                refine k_aload_n 710 711 C dL_copies_710 rfl 2 rfl ?_
                refine k_iload 711 713 C dL_copies_711 rfl 10 rfl ?_
                refine k_bipush 713 715 C dL_copies_713 rfl (v := 6) rfl ?_
                refine k_callVI 715 718 C [_, _] [_, _] dL_copies_715 rfl (ct_X3_drawing hA g54 (dr_nice zr1)) mi_X3_drawing ml_L_15 im_X3_drawing se_X3_drawing ci_X3 (IsArm.o ‹_›) rfl rfl ⟨Nat.le_of_ble_eq_true rfl, Nat.le_of_ble_eq_true rfl⟩ (Nat.le_of_ble_eq_true rfl) (Nat.zero_le _) (Nat.zero_le _) (fun r715 V715 p715 => ?_)
                obtain ⟨rfl, rfl⟩ := And.intro p715.1.symm p715.2
                refine k_rwI (dj_6 zr1 hzn kdT) ?_
                refine k_isub 718 719 C dL_copies_718 rfl  ?_
                refine k_icmp_ne 719 736 722 C dL_copies_719 (by decide) rfl (fun h719 => ?_) (fun h719 => ?_)
                · exact absurd ze9 h719
                · refine k_aload_n 722 723 C dL_copies_722 rfl 2 rfl ?_
                  refine k_iload 723 725 C dL_copies_723 rfl 10 rfl ?_
                  refine k_callVI 725 728 C [_] [] dL_copies_725 rfl (ct_X3_why hA g54) mi_X3_why ml_L_46 im_X3_why se_X3_why ci_X3 (IsArm.o ‹_›) rfl rfl ⟨Nat.le_of_ble_eq_true rfl, Nat.le_of_ble_eq_true rfl⟩ (Nat.le_of_ble_eq_true rfl) (Nat.zero_le _) (Nat.zero_le _) (fun r725 V725 p725 => ?_)
                  obtain ⟨rfl, r0725, ρ725, g725, t725⟩ := sq_why (x := rsn S1 (nI (kn S)) T') t54 ⟨p725.1.trans ((cWhy_is zr1 hzn).trans (by rw [kdT])), p725.2⟩
                  refine k_iconst 728 729 C dL_copies_728 rfl (v := 1) rfl ?_
                  refine k_icmp_eq 729 736 732 C dL_copies_729 (by decide) rfl (fun h729 => ?_) (fun h729 => ?_)
                  · exact absurd h729 znw
                  · refine k_iconst 732 733 C dL_copies_732 rfl (v := 1) rfl ?_
                    refine k_goto 733 737 C dL_copies_733 (by decide) ?_
                    refine k_zret 737 C dL_copies_737 rfl (by first | exact Or.inl rfl | exact Or.inr rfl | exact bi_01) ?_
                    exact ⟨rfl, Or.inr ⟨S1, ⟨⟨_, _, g725⟩, _, t725⟩, zg1, zn1⟩⟩
        · have hzp : zp < rn (kdr S zd) := Nat.lt_of_not_le (fun zz => h365 ((nI_leI (a := rn (kdr S zd)) (b := zp) (by omega) (by omega)).mpr zz))
          have hzp1 : zp < rn T' := by omega
          obtain ⟨axx, ayy⟩ := cp_XY zr ztf hzd cf zr1 ztf1 hzp
          have hq1 := (zr.b zd hzd).1.1
          have hfi := (fine_of zr ztf hzd).2 zp hzp
          have hbi := (zr.b zd hzd).2.2.2 zp hzp
          have bNX : Bd (LN (iX (kdr S zd) zp) (iP (kdr S zd))) := Bd_N hq1 ⟨by have := hbi.1.1; omega, by have := hbi.1.2; omega⟩
          have bNY : Bd (LN (iY (kdr S zd) zp) (iP (kdr S zd))) := Bd_N hq1 ⟨by have := hbi.2.1; omega, by have := hbi.2.2; omega⟩
          have bDX : Bd (LD (iX (kdr S zd) zp) (iP (kdr S zd))) := ⟨by have := LD_pos (n := iX (kdr S zd) zp) hq1; omega, by omega⟩
          have bDY : Bd (LD (iY (kdr S zd) zp) (iP (kdr S zd))) := ⟨by have := LD_pos (n := iY (kdr S zd) zp) hq1; omega, by omega⟩
          refine k_iload 368 370 C dL_copies_368 rfl 1 rfl ?_
          refine k_aload_n 370 371 C dL_copies_370 rfl 2 rfl ?_
          refine k_iload 371 373 C dL_copies_371 rfl 10 rfl ?_
          refine k_iload 373 375 C dL_copies_373 rfl 0 rfl ?_
          refine k_iconst 375 376 C dL_copies_375 rfl (v := 4) rfl ?_
          refine k_callVL 376 379 C [_, _, _] [_] dL_copies_376 rfl (ct_X3_pointInfo hA g54) mi_X3_pointInfo ml_L_19 im_X3_pointInfo se_X3_pointInfo ci_X3 (IsArm.o ‹_›) rfl rfl ⟨Nat.le_of_ble_eq_true rfl, Nat.le_of_ble_eq_true rfl⟩ (Nat.le_of_ble_eq_true rfl) (Nat.zero_le _) (Nat.zero_le _) (fun r376 V376 p376 => ?_)
          obtain ⟨rfl, rfl⟩ := And.intro p376.1.symm p376.2
          refine k_rwL (pj_4 zr1 hzn kdT hzp1) ?_
          refine k_l2i 379 380 C dL_copies_379 rfl  ?_
          refine k_iadd 380 381 C dL_copies_380 rfl  ?_
          refine k_rwI jn_s ?_
          refine k_istore 381 383 C [(17, _), (18, _), (0, _), (1, _), (3, _), (4, _), (5, _), (6, _), (7, _), (8, _), (9, _), (10, _), (11, _), (15, _), (16, _)] dL_copies_381 rfl (by decide) rfl ?_
          refine k_iconst 383 384 C dL_copies_383 rfl (v := 0) rfl ?_
          refine k_istore 384 386 C [(19, _), (17, _), (18, _), (0, _), (1, _), (3, _), (4, _), (5, _), (6, _), (7, _), (8, _), (9, _), (10, _), (11, _), (15, _), (16, _)] dL_copies_384 rfl (by decide) rfl ?_
          refine k_iload 386 388 C dL_copies_386 rfl 0 rfl ?_
          refine k_iconst 388 389 C dL_copies_388 rfl (v := 2) rfl ?_
          refine k_icmp_ge 389 610 392 C dL_copies_389 (by decide) rfl (fun h389 => ?_) (fun h389 => ?_)
          · exact absurd h389 (by decide)
          · refine k_aload_n 392 393 C dL_copies_392 rfl 3 rfl ?_
            refine k_iload_n 393 394 C dL_copies_393 rfl 4 rfl ?_
            refine k_iload 394 396 C dL_copies_394 rfl 2 rfl ?_
            refine k_iconst 396 397 C dL_copies_396 rfl (v := 2) rfl ?_
            refine k_iload 397 399 C dL_copies_397 rfl 0 rfl ?_
            refine k_imul 399 400 C dL_copies_399 rfl  ?_
            refine k_rwI (y := nI (0)) (pk_mul (2) (0)) ?_
            refine k_callVL 400 403 C [_, _, _] [] dL_copies_400 rfl (ct_X3_pointInfo hA g54) mi_X3_pointInfo ml_L_19 im_X3_pointInfo se_X3_pointInfo ci_X3 (IsArm.o ‹_›) rfl rfl ⟨Nat.le_of_ble_eq_true rfl, Nat.le_of_ble_eq_true rfl⟩ (Nat.le_of_ble_eq_true rfl) (Nat.zero_le _) (Nat.zero_le _) (fun r400 V400 p400 => ?_)
            obtain ⟨rfl, rfl⟩ := And.intro p400.1.symm p400.2
            refine k_rwL (pj_0 zr1 hzd1 kdD hzp) ?_
            refine k_lstore 403 405 C [(20, _), (19, _), (17, _), (18, _), (0, _), (1, _), (3, _), (4, _), (5, _), (6, _), (7, _), (8, _), (9, _), (10, _), (11, _), (15, _), (16, _)] dL_copies_403 rfl (by decide) rfl ?_
            refine k_aload_n 405 406 C dL_copies_405 rfl 4 rfl ?_
            refine k_iload_n 406 407 C dL_copies_406 rfl 5 rfl ?_
            refine k_iload 407 409 C dL_copies_407 rfl 3 rfl ?_
            refine k_iconst 409 410 C dL_copies_409 rfl (v := 2) rfl ?_
            refine k_iload 410 412 C dL_copies_410 rfl 1 rfl ?_
            refine k_imul 412 413 C dL_copies_412 rfl  ?_
            refine k_rwI (y := nI (0)) (pk_mul (2) (0)) ?_
            refine k_iconst 413 414 C dL_copies_413 rfl (v := 1) rfl ?_
            refine k_iadd 414 415 C dL_copies_414 rfl  ?_
            refine k_rwI (y := nI (1)) (nI_add (0) (1)) ?_
            refine k_callVL 415 418 C [_, _, _] [] dL_copies_415 rfl (ct_X3_pointInfo hA g54) mi_X3_pointInfo ml_L_19 im_X3_pointInfo se_X3_pointInfo ci_X3 (IsArm.o ‹_›) rfl rfl ⟨Nat.le_of_ble_eq_true rfl, Nat.le_of_ble_eq_true rfl⟩ (Nat.le_of_ble_eq_true rfl) (Nat.zero_le _) (Nat.zero_le _) (fun r415 V415 p415 => ?_)
            obtain ⟨rfl, rfl⟩ := And.intro p415.1.symm p415.2
            refine k_rwL (pj_1 zr1 hzd1 kdD hzp) ?_
            refine k_lstore 418 420 C [(22, _), (20, _), (19, _), (17, _), (18, _), (0, _), (1, _), (3, _), (4, _), (5, _), (6, _), (7, _), (8, _), (9, _), (10, _), (11, _), (15, _), (16, _)] dL_copies_418 rfl (by decide) rfl ?_
            refine k_aload_n 420 421 C dL_copies_420 rfl 5 rfl ?_
            refine k_iconst 421 422 C dL_copies_421 rfl (v := 3) rfl ?_
            refine k_iload 422 424 C dL_copies_422 rfl 2 rfl ?_
            refine k_iadd 424 425 C dL_copies_424 rfl  ?_
            refine k_rwI (y := nI (3)) (nI_add (3) (0)) ?_
            refine k_callVI 425 428 C [_] [] dL_copies_425 rfl (ct_X3_count hA g54 t54) mi_X3_count ml_L_9 im_X3_count se_X3_count ci_X3 (IsArm.o ‹_›) rfl rfl ⟨Nat.le_of_ble_eq_true rfl, Nat.le_of_ble_eq_true rfl⟩ (Nat.le_of_ble_eq_true rfl) (Nat.zero_le _) (Nat.zero_le _) (fun r425 V425 p425 => ?_)
            obtain ⟨rfl, rfl⟩ := And.intro p425.1.symm p425.2
            refine k_rwI (cCnt_3.trans (zkf 2 (by decide) (by decide) (by decide) (by decide))) ?_
            refine k_i2l 428 429 C dL_copies_428 rfl  ?_
            refine k_lstore 429 431 C [(24, _), (22, _), (20, _), (19, _), (17, _), (18, _), (0, _), (1, _), (3, _), (4, _), (5, _), (6, _), (7, _), (8, _), (9, _), (10, _), (11, _), (15, _), (16, _)] dL_copies_429 rfl (by decide) rfl ?_
            refine k_lload 431 433 C dL_copies_431 rfl 0 rfl ?_
            refine k_lload 433 435 C dL_copies_433 rfl 1 rfl ?_
            refine k_lmul 435 436 C dL_copies_435 rfl  ?_
            refine k_iload 436 438 C dL_copies_436 rfl 16 rfl ?_
            refine k_i2l 438 439 C dL_copies_438 rfl  ?_
            refine k_lmul 439 440 C dL_copies_439 rfl  ?_
            refine k_iload 440 442 C dL_copies_440 rfl 3 rfl ?_
            refine k_if_ne 442 450 445 C dL_copies_442 (by decide) rfl (fun h442 => ?_) (fun h442 => ?_)
            · exact absurd h442 (by decide)
            · refine k_iload 445 447 C dL_copies_445 rfl 17 rfl ?_
              refine k_goto 447 452 C dL_copies_447 (by decide) ?_
              refine k_iload 452 454 C dL_copies_452 rfl 15 rfl ?_
              refine k_imul 454 455 C dL_copies_454 rfl  ?_
              refine k_i2l 455 456 C dL_copies_455 rfl  ?_
              refine k_lload 456 458 C dL_copies_456 rfl 2 rfl ?_
              refine k_lload 458 460 C dL_copies_458 rfl 0 rfl ?_
              refine k_lload 460 462 C dL_copies_460 rfl 1 rfl ?_
              refine k_lmul 462 463 C dL_copies_462 rfl  ?_
              refine k_lsub 463 464 C dL_copies_463 rfl  ?_
              refine k_lmul 464 465 C dL_copies_464 rfl  ?_
              refine k_ladd 465 466 C dL_copies_465 rfl  ?_
              refine k_rwL (aimX_J zr bDX bNX) ?_
              refine k_lstore 466 468 C [(26, _), (24, _), (22, _), (20, _), (19, _), (17, _), (18, _), (0, _), (1, _), (3, _), (4, _), (5, _), (6, _), (7, _), (8, _), (9, _), (10, _), (11, _), (15, _), (16, _)] dL_copies_466 rfl (by decide) rfl ?_
              refine k_lload 468 470 C dL_copies_468 rfl 2 rfl ?_
              refine k_iload 470 472 C dL_copies_470 rfl 17 rfl ?_
              refine k_i2l 472 473 C dL_copies_472 rfl  ?_
              refine k_lmul 473 474 C dL_copies_473 rfl  ?_
              refine k_rwL (y := J (LD (iX (kdr S zd) zp) (iP (kdr S zd)) * bI S)) (by rw [i32_J (kf S 1), J_mul]) ?_
              refine k_lstore 474 476 C [(28, _), (26, _), (24, _), (22, _), (20, _), (19, _), (17, _), (18, _), (0, _), (1, _), (3, _), (4, _), (5, _), (6, _), (7, _), (8, _), (9, _), (10, _), (11, _), (15, _), (16, _)] dL_copies_474 rfl (by decide) rfl ?_
              refine k_aload_n 476 477 C dL_copies_476 rfl 8 rfl ?_
              refine k_iload 477 479 C dL_copies_477 rfl 16 rfl ?_
              refine k_iload 479 481 C dL_copies_479 rfl 7 rfl ?_
              refine k_iconst 481 482 C dL_copies_481 rfl (v := 2) rfl ?_
              refine k_iload 482 484 C dL_copies_482 rfl 5 rfl ?_
              refine k_imul 484 485 C dL_copies_484 rfl  ?_
              refine k_rwI (y := nI (0)) (pk_mul (2) (0)) ?_
              refine k_callVL 485 488 C [_, _, _] [] dL_copies_485 rfl (ct_X3_pointInfo hA g54) mi_X3_pointInfo ml_L_19 im_X3_pointInfo se_X3_pointInfo ci_X3 (IsArm.o ‹_›) rfl rfl ⟨Nat.le_of_ble_eq_true rfl, Nat.le_of_ble_eq_true rfl⟩ (Nat.le_of_ble_eq_true rfl) (Nat.zero_le _) (Nat.zero_le _) (fun r485 V485 p485 => ?_)
              obtain ⟨rfl, rfl⟩ := And.intro p485.1.symm p485.2
              refine k_rwL (pj_0 zr1 hzn kdT hzp1) ?_
              refine k_lstore 488 490 C [(30, _), (28, _), (26, _), (24, _), (22, _), (20, _), (19, _), (17, _), (18, _), (0, _), (1, _), (3, _), (4, _), (5, _), (6, _), (7, _), (8, _), (9, _), (10, _), (11, _), (15, _), (16, _)] dL_copies_488 rfl (by decide) rfl ?_
              refine k_aload_n 490 491 C dL_copies_490 rfl 9 rfl ?_
              refine k_iload 491 493 C dL_copies_491 rfl 17 rfl ?_
              refine k_iload 493 495 C dL_copies_493 rfl 8 rfl ?_
              refine k_iconst 495 496 C dL_copies_495 rfl (v := 2) rfl ?_
              refine k_iload 496 498 C dL_copies_496 rfl 6 rfl ?_
              refine k_imul 498 499 C dL_copies_498 rfl  ?_
              refine k_rwI (y := nI (0)) (pk_mul (2) (0)) ?_
              refine k_iconst 499 500 C dL_copies_499 rfl (v := 1) rfl ?_
              refine k_iadd 500 501 C dL_copies_500 rfl  ?_
              refine k_rwI (y := nI (1)) (nI_add (0) (1)) ?_
              refine k_callVL 501 504 C [_, _, _] [] dL_copies_501 rfl (ct_X3_pointInfo hA g54) mi_X3_pointInfo ml_L_19 im_X3_pointInfo se_X3_pointInfo ci_X3 (IsArm.o ‹_›) rfl rfl ⟨Nat.le_of_ble_eq_true rfl, Nat.le_of_ble_eq_true rfl⟩ (Nat.le_of_ble_eq_true rfl) (Nat.zero_le _) (Nat.zero_le _) (fun r501 V501 p501 => ?_)
              obtain ⟨rfl, rfl⟩ := And.intro p501.1.symm p501.2
              refine k_rwL (pj_1 zr1 hzn kdT hzp1) ?_
              refine k_lstore 504 506 C [(32, _), (30, _), (28, _), (26, _), (24, _), (22, _), (20, _), (19, _), (17, _), (18, _), (0, _), (1, _), (3, _), (4, _), (5, _), (6, _), (7, _), (8, _), (9, _), (10, _), (11, _), (15, _), (16, _)] dL_copies_504 rfl (by decide) rfl ?_
              refine k_lload 506 508 C dL_copies_506 rfl 0 rfl ?_
              refine k_lload 508 510 C dL_copies_508 rfl 2 rfl ?_
              refine k_callSL 510 513 C [_, _] [] dL_copies_510 rfl (ct_L_common axx.1.1 axx.1.2.1 axx.1.2.2) mi_L_common ml_L_25 st_L_common rfl rfl ⟨Nat.le_of_ble_eq_true rfl, Nat.le_of_ble_eq_true rfl⟩ (Nat.le_of_ble_eq_true rfl) (Nat.zero_le _) (Nat.zero_le _) (fun r510 V510 p510 => ?_)
              obtain ⟨rfl, rfl⟩ := And.intro p510.1.symm p510.2
              refine k_lstore 513 515 C [(34, _), (32, _), (30, _), (28, _), (26, _), (24, _), (22, _), (20, _), (19, _), (17, _), (18, _), (0, _), (1, _), (3, _), (4, _), (5, _), (6, _), (7, _), (8, _), (9, _), (10, _), (11, _), (15, _), (16, _)] dL_copies_513 rfl (by decide) rfl ?_
              refine k_lload 515 517 C dL_copies_515 rfl 2 rfl ?_
              refine k_lload 517 519 C dL_copies_517 rfl 3 rfl ?_
              refine k_lload 519 521 C dL_copies_519 rfl 0 rfl ?_
              refine k_ldiv 521 522 C dL_copies_521 rfl (by first | exact axx.ne | exact ayy.ne) ?_
              refine k_lmul 522 523 C dL_copies_522 rfl  ?_
              refine k_lload 523 525 C dL_copies_523 rfl 4 rfl ?_
              refine k_lload 525 527 C dL_copies_525 rfl 1 rfl ?_
              refine k_lload 527 529 C dL_copies_527 rfl 0 rfl ?_
              refine k_ldiv 529 530 C dL_copies_529 rfl (by first | exact axx.ne | exact ayy.ne) ?_
              refine k_lmul 530 531 C dL_copies_530 rfl  ?_
              refine k_lsub 531 532 C dL_copies_531 rfl  ?_
              refine k_rwL (farE_J axx) ?_
              refine k_lstore 532 534 C [(36, _), (34, _), (32, _), (30, _), (28, _), (26, _), (24, _), (22, _), (20, _), (19, _), (17, _), (18, _), (0, _), (1, _), (3, _), (4, _), (5, _), (6, _), (7, _), (8, _), (9, _), (10, _), (11, _), (15, _), (16, _)] dL_copies_532 rfl (by decide) rfl ?_
              refine k_aload_n 534 535 C dL_copies_534 rfl 12 rfl ?_
              refine k_bipush 535 537 C dL_copies_535 rfl (v := 6) rfl ?_
              refine k_callVI 537 540 C [_] [] dL_copies_537 rfl (ct_X3_count hA g54 t54) mi_X3_count ml_L_9 im_X3_count se_X3_count ci_X3 (IsArm.o ‹_›) rfl rfl ⟨Nat.le_of_ble_eq_true rfl, Nat.le_of_ble_eq_true rfl⟩ (Nat.le_of_ble_eq_true rfl) (Nat.zero_le _) (Nat.zero_le _) (fun r537 V537 p537 => ?_)
              obtain ⟨rfl, rfl⟩ := And.intro p537.1.symm p537.2
              refine k_rwI (cCnt_6.trans (congrFun zks 1)) ?_
              refine k_i2l 540 541 C dL_copies_540 rfl  ?_
              refine k_rwL (i32_J _) ?_
              refine k_lload 541 543 C dL_copies_541 rfl 2 rfl ?_
              refine k_lload 543 545 C dL_copies_543 rfl 1 rfl ?_
              refine k_ldiv 545 546 C dL_copies_545 rfl (by first | exact axx.ne | exact ayy.ne) ?_
              refine k_lmul 546 547 C dL_copies_546 rfl  ?_
              refine k_lload 547 549 C dL_copies_547 rfl 4 rfl ?_
              refine k_lmul 549 550 C dL_copies_549 rfl  ?_
              refine k_rwL (farP_J axx) ?_
              refine k_lstore 550 552 C [(38, _), (36, _), (34, _), (32, _), (30, _), (28, _), (26, _), (24, _), (22, _), (20, _), (19, _), (17, _), (18, _), (0, _), (1, _), (3, _), (4, _), (5, _), (6, _), (7, _), (8, _), (9, _), (10, _), (11, _), (15, _), (16, _)] dL_copies_550 rfl (by decide) rfl ?_
              refine k_aload_n 552 553 C dL_copies_552 rfl 13 rfl ?_
              refine k_iload 553 555 C dL_copies_553 rfl 21 rfl ?_
              refine k_iload 555 557 C dL_copies_555 rfl 12 rfl ?_
              refine k_iconst 557 558 C dL_copies_557 rfl (v := 4) rfl ?_
              refine k_callVL 558 561 C [_, _, _] [] dL_copies_558 rfl (ct_X3_pointInfo hA g54) mi_X3_pointInfo ml_L_19 im_X3_pointInfo se_X3_pointInfo ci_X3 (IsArm.o ‹_›) rfl rfl ⟨Nat.le_of_ble_eq_true rfl, Nat.le_of_ble_eq_true rfl⟩ (Nat.le_of_ble_eq_true rfl) (Nat.zero_le _) (Nat.zero_le _) (fun r558 V558 p558 => ?_)
              obtain ⟨rfl, rfl⟩ := And.intro p558.1.symm p558.2
              refine k_rwL (pj_4 zr1 hzn kdT hzp1) ?_
              refine k_lconst 561 562 C dL_copies_561 rfl (v := 0) rfl ?_
              refine k_lcmp_ne 562 563 570 566 C dL_copies_562 rfl dL_copies_563 (by decide) rfl (fun h563 => ?_) (fun h563 => ?_)
              · refine k_iconst 570 571 C dL_copies_570 rfl (v := 0) rfl ?_
                refine k_istore 571 573 C [(40, _), (38, _), (36, _), (34, _), (32, _), (30, _), (28, _), (26, _), (24, _), (22, _), (20, _), (19, _), (17, _), (18, _), (0, _), (1, _), (3, _), (4, _), (5, _), (6, _), (7, _), (8, _), (9, _), (10, _), (11, _), (15, _), (16, _)] dL_copies_571 rfl (by decide) rfl ?_
                refine k_iload 573 575 C dL_copies_573 rfl 0 rfl ?_
                refine k_if_eq 575 585 578 C dL_copies_575 (by decide) rfl (fun h575 => ?_) (fun h575 => ?_)
                · refine k_lload 585 587 C dL_copies_585 rfl 2 rfl ?_
                  refine k_lload 587 589 C dL_copies_587 rfl 1 rfl ?_
                  refine k_lcmp_gt 589 590 602 593 C dL_copies_589 rfl dL_copies_590 (by decide) rfl (fun h590 => ?_) (fun h590 => ?_)
                  · exact absurd h590 axx.2.2.2.1
                  · refine k_lload 593 595 C dL_copies_593 rfl 2 rfl ?_
                    refine k_lneg 595 596 C dL_copies_595 rfl  ?_
                    refine k_lload 596 598 C dL_copies_596 rfl 1 rfl ?_
                    refine k_lcmp_le 598 599 604 602 C dL_copies_598 rfl dL_copies_599 (by decide) rfl (fun h599 => ?_) (fun h599 => ?_)
                    · refine k_iinc 604 607 C [(19, _), (40, _), (38, _), (36, _), (34, _), (32, _), (30, _), (28, _), (26, _), (24, _), (22, _), (20, _), (17, _), (18, _), (0, _), (1, _), (3, _), (4, _), (5, _), (6, _), (7, _), (8, _), (9, _), (10, _), (11, _), (15, _), (16, _)] (nI (1)) dL_copies_604 rfl 11 rfl (nI_1 (0)) (by decide) rfl ?_
                      refine k_goto 607 386 C dL_copies_607 (by decide) ?_
                      refine k_iload 386 388 C dL_copies_386 rfl 0 rfl ?_
                      refine k_iconst 388 389 C dL_copies_388 rfl (v := 2) rfl ?_
                      refine k_icmp_ge 389 610 392 C dL_copies_389 (by decide) rfl (fun h389 => ?_) (fun h389 => ?_)
                      · exact absurd h389 (by decide)
                      · refine k_aload_n 392 393 C dL_copies_392 rfl 14 rfl ?_
                        refine k_iload_n 393 394 C dL_copies_393 rfl 15 rfl ?_
                        refine k_iload 394 396 C dL_copies_394 rfl 13 rfl ?_
                        refine k_iconst 396 397 C dL_copies_396 rfl (v := 2) rfl ?_
                        refine k_iload 397 399 C dL_copies_397 rfl 0 rfl ?_
                        refine k_imul 399 400 C dL_copies_399 rfl  ?_
                        refine k_rwI (y := nI (2)) (pk_mul (2) (1)) ?_
                        refine k_callVL 400 403 C [_, _, _] [] dL_copies_400 rfl (ct_X3_pointInfo hA g54) mi_X3_pointInfo ml_L_19 im_X3_pointInfo se_X3_pointInfo ci_X3 (IsArm.o ‹_›) rfl rfl ⟨Nat.le_of_ble_eq_true rfl, Nat.le_of_ble_eq_true rfl⟩ (Nat.le_of_ble_eq_true rfl) (Nat.zero_le _) (Nat.zero_le _) (fun r400 V400 p400 => ?_)
                        obtain ⟨rfl, rfl⟩ := And.intro p400.1.symm p400.2
                        refine k_rwL (pj_2 zr1 hzd1 kdD hzp) ?_
                        refine k_lstore 403 405 C [(20, _), (19, _), (40, _), (38, _), (36, _), (34, _), (32, _), (30, _), (28, _), (26, _), (24, _), (22, _), (17, _), (18, _), (0, _), (1, _), (3, _), (4, _), (5, _), (6, _), (7, _), (8, _), (9, _), (10, _), (11, _), (15, _), (16, _)] dL_copies_403 rfl (by decide) rfl ?_
                        refine k_aload_n 405 406 C dL_copies_405 rfl 14 rfl ?_
                        refine k_iload_n 406 407 C dL_copies_406 rfl 15 rfl ?_
                        refine k_iload 407 409 C dL_copies_407 rfl 13 rfl ?_
                        refine k_iconst 409 410 C dL_copies_409 rfl (v := 2) rfl ?_
                        refine k_iload 410 412 C dL_copies_410 rfl 1 rfl ?_
                        refine k_imul 412 413 C dL_copies_412 rfl  ?_
                        refine k_rwI (y := nI (2)) (pk_mul (2) (1)) ?_
                        refine k_iconst 413 414 C dL_copies_413 rfl (v := 1) rfl ?_
                        refine k_iadd 414 415 C dL_copies_414 rfl  ?_
                        refine k_rwI (y := nI (3)) (nI_add (2) (1)) ?_
                        refine k_callVL 415 418 C [_, _, _] [] dL_copies_415 rfl (ct_X3_pointInfo hA g54) mi_X3_pointInfo ml_L_19 im_X3_pointInfo se_X3_pointInfo ci_X3 (IsArm.o ‹_›) rfl rfl ⟨Nat.le_of_ble_eq_true rfl, Nat.le_of_ble_eq_true rfl⟩ (Nat.le_of_ble_eq_true rfl) (Nat.zero_le _) (Nat.zero_le _) (fun r415 V415 p415 => ?_)
                        obtain ⟨rfl, rfl⟩ := And.intro p415.1.symm p415.2
                        refine k_rwL (pj_3 zr1 hzd1 kdD hzp) ?_
                        refine k_lstore 418 420 C [(22, _), (20, _), (19, _), (40, _), (38, _), (36, _), (34, _), (32, _), (30, _), (28, _), (26, _), (24, _), (17, _), (18, _), (0, _), (1, _), (3, _), (4, _), (5, _), (6, _), (7, _), (8, _), (9, _), (10, _), (11, _), (15, _), (16, _)] dL_copies_418 rfl (by decide) rfl ?_
                        refine k_aload_n 420 421 C dL_copies_420 rfl 14 rfl ?_
                        refine k_iconst 421 422 C dL_copies_421 rfl (v := 3) rfl ?_
                        refine k_iload 422 424 C dL_copies_422 rfl 2 rfl ?_
                        refine k_iadd 424 425 C dL_copies_424 rfl  ?_
                        refine k_rwI (y := nI (4)) (nI_add (3) (1)) ?_
                        refine k_callVI 425 428 C [_] [] dL_copies_425 rfl (ct_X3_count hA g54 t54) mi_X3_count ml_L_9 im_X3_count se_X3_count ci_X3 (IsArm.o ‹_›) rfl rfl ⟨Nat.le_of_ble_eq_true rfl, Nat.le_of_ble_eq_true rfl⟩ (Nat.le_of_ble_eq_true rfl) (Nat.zero_le _) (Nat.zero_le _) (fun r425 V425 p425 => ?_)
                        obtain ⟨rfl, rfl⟩ := And.intro p425.1.symm p425.2
                        refine k_rwI (cCnt_4.trans (zkf 3 (by decide) (by decide) (by decide) (by decide))) ?_
                        refine k_i2l 428 429 C dL_copies_428 rfl  ?_
                        refine k_lstore 429 431 C [(24, _), (22, _), (20, _), (19, _), (40, _), (38, _), (36, _), (34, _), (32, _), (30, _), (28, _), (26, _), (17, _), (18, _), (0, _), (1, _), (3, _), (4, _), (5, _), (6, _), (7, _), (8, _), (9, _), (10, _), (11, _), (15, _), (16, _)] dL_copies_429 rfl (by decide) rfl ?_
                        refine k_lload 431 433 C dL_copies_431 rfl 0 rfl ?_
                        refine k_lload 433 435 C dL_copies_433 rfl 1 rfl ?_
                        refine k_lmul 435 436 C dL_copies_435 rfl  ?_
                        refine k_iload 436 438 C dL_copies_436 rfl 24 rfl ?_
                        refine k_i2l 438 439 C dL_copies_438 rfl  ?_
                        refine k_lmul 439 440 C dL_copies_439 rfl  ?_
                        refine k_iload 440 442 C dL_copies_440 rfl 3 rfl ?_
                        refine k_if_ne 442 450 445 C dL_copies_442 (by decide) rfl (fun h442 => ?_) (fun h442 => ?_)
                        · refine k_iload 450 452 C dL_copies_450 rfl 26 rfl ?_
                          refine k_iload 452 454 C dL_copies_452 rfl 23 rfl ?_
                          refine k_imul 454 455 C dL_copies_454 rfl  ?_
                          refine k_i2l 455 456 C dL_copies_455 rfl  ?_
                          refine k_lload 456 458 C dL_copies_456 rfl 2 rfl ?_
                          refine k_lload 458 460 C dL_copies_458 rfl 0 rfl ?_
                          refine k_lload 460 462 C dL_copies_460 rfl 1 rfl ?_
                          refine k_lmul 462 463 C dL_copies_462 rfl  ?_
                          refine k_lsub 463 464 C dL_copies_463 rfl  ?_
                          refine k_lmul 464 465 C dL_copies_464 rfl  ?_
                          refine k_ladd 465 466 C dL_copies_465 rfl  ?_
                          refine k_rwL (aimY_J zr bDY bNY) ?_
                          refine k_lstore 466 468 C [(26, _), (24, _), (22, _), (20, _), (19, _), (40, _), (38, _), (36, _), (34, _), (32, _), (30, _), (28, _), (17, _), (18, _), (0, _), (1, _), (3, _), (4, _), (5, _), (6, _), (7, _), (8, _), (9, _), (10, _), (11, _), (15, _), (16, _)] dL_copies_466 rfl (by decide) rfl ?_
                          refine k_lload 468 470 C dL_copies_468 rfl 2 rfl ?_
                          refine k_iload 470 472 C dL_copies_470 rfl 24 rfl ?_
                          refine k_i2l 472 473 C dL_copies_472 rfl  ?_
                          refine k_lmul 473 474 C dL_copies_473 rfl  ?_
                          refine k_rwL (y := J (LD (iY (kdr S zd) zp) (iP (kdr S zd)) * bI S)) (by rw [i32_J (kf S 1), J_mul]) ?_
                          refine k_lstore 474 476 C [(28, _), (26, _), (24, _), (22, _), (20, _), (19, _), (40, _), (38, _), (36, _), (34, _), (32, _), (30, _), (17, _), (18, _), (0, _), (1, _), (3, _), (4, _), (5, _), (6, _), (7, _), (8, _), (9, _), (10, _), (11, _), (15, _), (16, _)] dL_copies_474 rfl (by decide) rfl ?_
                          refine k_aload_n 476 477 C dL_copies_476 rfl 14 rfl ?_
                          refine k_iload 477 479 C dL_copies_477 rfl 22 rfl ?_
                          refine k_iload 479 481 C dL_copies_479 rfl 13 rfl ?_
                          refine k_iconst 481 482 C dL_copies_481 rfl (v := 2) rfl ?_
                          refine k_iload 482 484 C dL_copies_482 rfl 5 rfl ?_
                          refine k_imul 484 485 C dL_copies_484 rfl  ?_
                          refine k_rwI (y := nI (2)) (pk_mul (2) (1)) ?_
                          refine k_callVL 485 488 C [_, _, _] [] dL_copies_485 rfl (ct_X3_pointInfo hA g54) mi_X3_pointInfo ml_L_19 im_X3_pointInfo se_X3_pointInfo ci_X3 (IsArm.o ‹_›) rfl rfl ⟨Nat.le_of_ble_eq_true rfl, Nat.le_of_ble_eq_true rfl⟩ (Nat.le_of_ble_eq_true rfl) (Nat.zero_le _) (Nat.zero_le _) (fun r485 V485 p485 => ?_)
                          obtain ⟨rfl, rfl⟩ := And.intro p485.1.symm p485.2
                          refine k_rwL (pj_2 zr1 hzn kdT hzp1) ?_
                          refine k_lstore 488 490 C [(30, _), (28, _), (26, _), (24, _), (22, _), (20, _), (19, _), (40, _), (38, _), (36, _), (34, _), (32, _), (17, _), (18, _), (0, _), (1, _), (3, _), (4, _), (5, _), (6, _), (7, _), (8, _), (9, _), (10, _), (11, _), (15, _), (16, _)] dL_copies_488 rfl (by decide) rfl ?_
                          refine k_aload_n 490 491 C dL_copies_490 rfl 14 rfl ?_
                          refine k_iload 491 493 C dL_copies_491 rfl 22 rfl ?_
                          refine k_iload 493 495 C dL_copies_493 rfl 13 rfl ?_
                          refine k_iconst 495 496 C dL_copies_495 rfl (v := 2) rfl ?_
                          refine k_iload 496 498 C dL_copies_496 rfl 6 rfl ?_
                          refine k_imul 498 499 C dL_copies_498 rfl  ?_
                          refine k_rwI (y := nI (2)) (pk_mul (2) (1)) ?_
                          refine k_iconst 499 500 C dL_copies_499 rfl (v := 1) rfl ?_
                          refine k_iadd 500 501 C dL_copies_500 rfl  ?_
                          refine k_rwI (y := nI (3)) (nI_add (2) (1)) ?_
                          refine k_callVL 501 504 C [_, _, _] [] dL_copies_501 rfl (ct_X3_pointInfo hA g54) mi_X3_pointInfo ml_L_19 im_X3_pointInfo se_X3_pointInfo ci_X3 (IsArm.o ‹_›) rfl rfl ⟨Nat.le_of_ble_eq_true rfl, Nat.le_of_ble_eq_true rfl⟩ (Nat.le_of_ble_eq_true rfl) (Nat.zero_le _) (Nat.zero_le _) (fun r501 V501 p501 => ?_)
                          obtain ⟨rfl, rfl⟩ := And.intro p501.1.symm p501.2
                          refine k_rwL (pj_3 zr1 hzn kdT hzp1) ?_
                          refine k_lstore 504 506 C [(32, _), (30, _), (28, _), (26, _), (24, _), (22, _), (20, _), (19, _), (40, _), (38, _), (36, _), (34, _), (17, _), (18, _), (0, _), (1, _), (3, _), (4, _), (5, _), (6, _), (7, _), (8, _), (9, _), (10, _), (11, _), (15, _), (16, _)] dL_copies_504 rfl (by decide) rfl ?_
                          refine k_lload 506 508 C dL_copies_506 rfl 0 rfl ?_
                          refine k_lload 508 510 C dL_copies_508 rfl 2 rfl ?_
                          refine k_callSL 510 513 C [_, _] [] dL_copies_510 rfl (ct_L_common ayy.1.1 ayy.1.2.1 ayy.1.2.2) mi_L_common ml_L_25 st_L_common rfl rfl ⟨Nat.le_of_ble_eq_true rfl, Nat.le_of_ble_eq_true rfl⟩ (Nat.le_of_ble_eq_true rfl) (Nat.zero_le _) (Nat.zero_le _) (fun r510 V510 p510 => ?_)
                          obtain ⟨rfl, rfl⟩ := And.intro p510.1.symm p510.2
                          refine k_lstore 513 515 C [(34, _), (32, _), (30, _), (28, _), (26, _), (24, _), (22, _), (20, _), (19, _), (40, _), (38, _), (36, _), (17, _), (18, _), (0, _), (1, _), (3, _), (4, _), (5, _), (6, _), (7, _), (8, _), (9, _), (10, _), (11, _), (15, _), (16, _)] dL_copies_513 rfl (by decide) rfl ?_
                          refine k_lload 515 517 C dL_copies_515 rfl 2 rfl ?_
                          refine k_lload 517 519 C dL_copies_517 rfl 3 rfl ?_
                          refine k_lload 519 521 C dL_copies_519 rfl 0 rfl ?_
                          refine k_ldiv 521 522 C dL_copies_521 rfl (by first | exact axx.ne | exact ayy.ne) ?_
                          refine k_lmul 522 523 C dL_copies_522 rfl  ?_
                          refine k_lload 523 525 C dL_copies_523 rfl 4 rfl ?_
                          refine k_lload 525 527 C dL_copies_525 rfl 1 rfl ?_
                          refine k_lload 527 529 C dL_copies_527 rfl 0 rfl ?_
                          refine k_ldiv 529 530 C dL_copies_529 rfl (by first | exact axx.ne | exact ayy.ne) ?_
                          refine k_lmul 530 531 C dL_copies_530 rfl  ?_
                          refine k_lsub 531 532 C dL_copies_531 rfl  ?_
                          refine k_rwL (farE_J ayy) ?_
                          refine k_lstore 532 534 C [(36, _), (34, _), (32, _), (30, _), (28, _), (26, _), (24, _), (22, _), (20, _), (19, _), (40, _), (38, _), (17, _), (18, _), (0, _), (1, _), (3, _), (4, _), (5, _), (6, _), (7, _), (8, _), (9, _), (10, _), (11, _), (15, _), (16, _)] dL_copies_532 rfl (by decide) rfl ?_
                          refine k_aload_n 534 535 C dL_copies_534 rfl 14 rfl ?_
                          refine k_bipush 535 537 C dL_copies_535 rfl (v := 6) rfl ?_
                          refine k_callVI 537 540 C [_] [] dL_copies_537 rfl (ct_X3_count hA g54 t54) mi_X3_count ml_L_9 im_X3_count se_X3_count ci_X3 (IsArm.o ‹_›) rfl rfl ⟨Nat.le_of_ble_eq_true rfl, Nat.le_of_ble_eq_true rfl⟩ (Nat.le_of_ble_eq_true rfl) (Nat.zero_le _) (Nat.zero_le _) (fun r537 V537 p537 => ?_)
                          obtain ⟨rfl, rfl⟩ := And.intro p537.1.symm p537.2
                          refine k_rwI (cCnt_6.trans (congrFun zks 1)) ?_
                          refine k_i2l 540 541 C dL_copies_540 rfl  ?_
                          refine k_rwL (i32_J _) ?_
                          refine k_lload 541 543 C dL_copies_541 rfl 2 rfl ?_
                          refine k_lload 543 545 C dL_copies_543 rfl 1 rfl ?_
                          refine k_ldiv 545 546 C dL_copies_545 rfl (by first | exact axx.ne | exact ayy.ne) ?_
                          refine k_lmul 546 547 C dL_copies_546 rfl  ?_
                          refine k_lload 547 549 C dL_copies_547 rfl 4 rfl ?_
                          refine k_lmul 549 550 C dL_copies_549 rfl  ?_
                          refine k_rwL (farP_J ayy) ?_
                          refine k_lstore 550 552 C [(38, _), (36, _), (34, _), (32, _), (30, _), (28, _), (26, _), (24, _), (22, _), (20, _), (19, _), (40, _), (17, _), (18, _), (0, _), (1, _), (3, _), (4, _), (5, _), (6, _), (7, _), (8, _), (9, _), (10, _), (11, _), (15, _), (16, _)] dL_copies_550 rfl (by decide) rfl ?_
                          refine k_aload_n 552 553 C dL_copies_552 rfl 14 rfl ?_
                          refine k_iload 553 555 C dL_copies_553 rfl 22 rfl ?_
                          refine k_iload 555 557 C dL_copies_555 rfl 13 rfl ?_
                          refine k_iconst 557 558 C dL_copies_557 rfl (v := 4) rfl ?_
                          refine k_callVL 558 561 C [_, _, _] [] dL_copies_558 rfl (ct_X3_pointInfo hA g54) mi_X3_pointInfo ml_L_19 im_X3_pointInfo se_X3_pointInfo ci_X3 (IsArm.o ‹_›) rfl rfl ⟨Nat.le_of_ble_eq_true rfl, Nat.le_of_ble_eq_true rfl⟩ (Nat.le_of_ble_eq_true rfl) (Nat.zero_le _) (Nat.zero_le _) (fun r558 V558 p558 => ?_)
                          obtain ⟨rfl, rfl⟩ := And.intro p558.1.symm p558.2
                          refine k_rwL (pj_4 zr1 hzn kdT hzp1) ?_
                          refine k_lconst 561 562 C dL_copies_561 rfl (v := 0) rfl ?_
                          refine k_lcmp_ne 562 563 570 566 C dL_copies_562 rfl dL_copies_563 (by decide) rfl (fun h563 => ?_) (fun h563 => ?_)
                          · refine k_iconst 570 571 C dL_copies_570 rfl (v := 0) rfl ?_
                            refine k_istore 571 573 C [(40, _), (38, _), (36, _), (34, _), (32, _), (30, _), (28, _), (26, _), (24, _), (22, _), (20, _), (19, _), (17, _), (18, _), (0, _), (1, _), (3, _), (4, _), (5, _), (6, _), (7, _), (8, _), (9, _), (10, _), (11, _), (15, _), (16, _)] dL_copies_571 rfl (by decide) rfl ?_
                            refine k_iload 573 575 C dL_copies_573 rfl 0 rfl ?_
                            refine k_if_eq 575 585 578 C dL_copies_575 (by decide) rfl (fun h575 => ?_) (fun h575 => ?_)
                            · refine k_lload 585 587 C dL_copies_585 rfl 2 rfl ?_
                              refine k_lload 587 589 C dL_copies_587 rfl 1 rfl ?_
                              refine k_lcmp_gt 589 590 602 593 C dL_copies_589 rfl dL_copies_590 (by decide) rfl (fun h590 => ?_) (fun h590 => ?_)
                              · exact absurd h590 ayy.2.2.2.1
                              · refine k_lload 593 595 C dL_copies_593 rfl 2 rfl ?_
                                refine k_lneg 595 596 C dL_copies_595 rfl  ?_
                                refine k_lload 596 598 C dL_copies_596 rfl 1 rfl ?_
                                refine k_lcmp_le 598 599 604 602 C dL_copies_598 rfl dL_copies_599 (by decide) rfl (fun h599 => ?_) (fun h599 => ?_)
                                · refine k_iinc 604 607 C [(19, _), (40, _), (38, _), (36, _), (34, _), (32, _), (30, _), (28, _), (26, _), (24, _), (22, _), (20, _), (17, _), (18, _), (0, _), (1, _), (3, _), (4, _), (5, _), (6, _), (7, _), (8, _), (9, _), (10, _), (11, _), (15, _), (16, _)] (nI (2)) dL_copies_604 rfl 11 rfl (nI_1 (1)) (by decide) rfl ?_
                                  refine k_goto 607 386 C dL_copies_607 (by decide) ?_
                                  refine k_iload 386 388 C dL_copies_386 rfl 0 rfl ?_
                                  refine k_iconst 388 389 C dL_copies_388 rfl (v := 2) rfl ?_
                                  refine k_icmp_ge 389 610 392 C dL_copies_389 (by decide) rfl (fun h389 => ?_) (fun h389 => ?_)
                                  · refine k_aload_n 610 611 C dL_copies_610 rfl 14 rfl ?_
                                    refine k_iload 611 613 C dL_copies_611 rfl 22 rfl ?_
                                    refine k_iload 613 615 C dL_copies_613 rfl 13 rfl ?_
                                    refine k_iconst 615 616 C dL_copies_615 rfl (v := 4) rfl ?_
                                    refine k_callVL 616 619 C [_, _, _] [] dL_copies_616 rfl (ct_X3_pointInfo hA g54) mi_X3_pointInfo ml_L_19 im_X3_pointInfo se_X3_pointInfo ci_X3 (IsArm.o ‹_›) rfl rfl ⟨Nat.le_of_ble_eq_true rfl, Nat.le_of_ble_eq_true rfl⟩ (Nat.le_of_ble_eq_true rfl) (Nat.zero_le _) (Nat.zero_le _) (fun r616 V616 p616 => ?_)
                                    obtain ⟨rfl, rfl⟩ := And.intro p616.1.symm p616.2
                                    refine k_rwL (pj_4 zr1 hzn kdT hzp1) ?_
                                    refine k_aload_n 619 620 C dL_copies_619 rfl 14 rfl ?_
                                    refine k_iload_n 620 621 C dL_copies_620 rfl 15 rfl ?_
                                    refine k_iload 621 623 C dL_copies_621 rfl 13 rfl ?_
                                    refine k_iconst 623 624 C dL_copies_623 rfl (v := 4) rfl ?_
                                    refine k_callVL 624 627 C [_, _, _] [_] dL_copies_624 rfl (ct_X3_pointInfo hA g54) mi_X3_pointInfo ml_L_19 im_X3_pointInfo se_X3_pointInfo ci_X3 (IsArm.o ‹_›) rfl rfl ⟨Nat.le_of_ble_eq_true rfl, Nat.le_of_ble_eq_true rfl⟩ (Nat.le_of_ble_eq_true rfl) (Nat.zero_le _) (Nat.zero_le _) (fun r624 V624 p624 => ?_)
                                    obtain ⟨rfl, rfl⟩ := And.intro p624.1.symm p624.2
                                    refine k_rwL (pj_4 zr1 hzd1 kdD hzp) ?_
                                    have zjj : jI T' zp = jI (kdr S zd) zp := by
                                      have zl := cf.2.2.2.2.1 zp hzp
                                      unfold jI
                                      by_cases zz : rl (kdr S zd) zp = -1
                                      · rw [if_pos zz, if_pos (zl.mpr zz)]
                                      · rw [if_neg zz, if_neg (fun zy => zz (zl.mp zy))]
                                    refine k_lcmp_eq 627 628 633 631 C dL_copies_627 rfl dL_copies_628 (by decide) rfl (fun h628 => ?_) (fun h628 => ?_)
                                    · refine k_iinc 633 636 C [(18, _), (19, _), (40, _), (38, _), (36, _), (34, _), (32, _), (30, _), (28, _), (26, _), (24, _), (22, _), (20, _), (17, _), (0, _), (1, _), (3, _), (4, _), (5, _), (6, _), (7, _), (8, _), (9, _), (10, _), (11, _), (15, _), (16, _)] (nI (zp + 1)) dL_copies_633 rfl 13 rfl (nI_1 (zp)) (by decide) rfl ?_
                                      refine k_goto 636 361 C dL_copies_636 (by decide) ?_
                                      refine k_perm [0, 13, 14, 15, 16, 17, 18, 19, 20, 21, 22, 23, 24, 25, 26] (L' := [(18, _), (17, _), (0, _), (1, _), (3, _), (4, _), (5, _), (6, _), (7, _), (8, _), (9, _), (10, _), (11, _), (15, _), (16, _)]) rfl ?_
                                      exact ih361 (rn (kdr S zd) - (zp + 1)) (by omega) (zp + 1) rfl (by omega)
                                    · exact absurd zjj h628
                                  · exact absurd h389 (by decide)
                                · exact absurd ayy.2.2.2.2 h599
                            · exact absurd h575 (by decide)
                          · refine k_iconst 566 567 C dL_copies_566 rfl (v := 1) rfl ?_
                            refine k_goto 567 571 C dL_copies_567 (by decide) ?_
                            refine k_istore 571 573 C [(40, _), (38, _), (36, _), (34, _), (32, _), (30, _), (28, _), (26, _), (24, _), (22, _), (20, _), (19, _), (17, _), (18, _), (0, _), (1, _), (3, _), (4, _), (5, _), (6, _), (7, _), (8, _), (9, _), (10, _), (11, _), (15, _), (16, _)] dL_copies_571 rfl (by decide) rfl ?_
                            refine k_iload 573 575 C dL_copies_573 rfl 0 rfl ?_
                            refine k_if_eq 575 585 578 C dL_copies_575 (by decide) rfl (fun h575 => ?_) (fun h575 => ?_)
                            · exact absurd h575 (by decide)
                            · refine k_lload 578 580 C dL_copies_578 rfl 2 rfl ?_
                              refine k_lconst 580 581 C dL_copies_580 rfl (v := 0) rfl ?_
                              refine k_lcmp_ne 581 582 602 585 C dL_copies_581 rfl dL_copies_582 (by decide) rfl (fun h582 => ?_) (fun h582 => ?_)
                              · exact absurd (ayy.2.2.1 h563) h582
                              · refine k_lload 585 587 C dL_copies_585 rfl 2 rfl ?_
                                refine k_lload 587 589 C dL_copies_587 rfl 1 rfl ?_
                                refine k_lcmp_gt 589 590 602 593 C dL_copies_589 rfl dL_copies_590 (by decide) rfl (fun h590 => ?_) (fun h590 => ?_)
                                · exact absurd h590 ayy.2.2.2.1
                                · refine k_lload 593 595 C dL_copies_593 rfl 2 rfl ?_
                                  refine k_lneg 595 596 C dL_copies_595 rfl  ?_
                                  refine k_lload 596 598 C dL_copies_596 rfl 1 rfl ?_
                                  refine k_lcmp_le 598 599 604 602 C dL_copies_598 rfl dL_copies_599 (by decide) rfl (fun h599 => ?_) (fun h599 => ?_)
                                  · refine k_iinc 604 607 C [(19, _), (40, _), (38, _), (36, _), (34, _), (32, _), (30, _), (28, _), (26, _), (24, _), (22, _), (20, _), (17, _), (18, _), (0, _), (1, _), (3, _), (4, _), (5, _), (6, _), (7, _), (8, _), (9, _), (10, _), (11, _), (15, _), (16, _)] (nI (2)) dL_copies_604 rfl 11 rfl (nI_1 (1)) (by decide) rfl ?_
                                    refine k_goto 607 386 C dL_copies_607 (by decide) ?_
                                    refine k_iload 386 388 C dL_copies_386 rfl 0 rfl ?_
                                    refine k_iconst 388 389 C dL_copies_388 rfl (v := 2) rfl ?_
                                    refine k_icmp_ge 389 610 392 C dL_copies_389 (by decide) rfl (fun h389 => ?_) (fun h389 => ?_)
                                    · refine k_aload_n 610 611 C dL_copies_610 rfl 14 rfl ?_
                                      refine k_iload 611 613 C dL_copies_611 rfl 22 rfl ?_
                                      refine k_iload 613 615 C dL_copies_613 rfl 13 rfl ?_
                                      refine k_iconst 615 616 C dL_copies_615 rfl (v := 4) rfl ?_
                                      refine k_callVL 616 619 C [_, _, _] [] dL_copies_616 rfl (ct_X3_pointInfo hA g54) mi_X3_pointInfo ml_L_19 im_X3_pointInfo se_X3_pointInfo ci_X3 (IsArm.o ‹_›) rfl rfl ⟨Nat.le_of_ble_eq_true rfl, Nat.le_of_ble_eq_true rfl⟩ (Nat.le_of_ble_eq_true rfl) (Nat.zero_le _) (Nat.zero_le _) (fun r616 V616 p616 => ?_)
                                      obtain ⟨rfl, rfl⟩ := And.intro p616.1.symm p616.2
                                      refine k_rwL (pj_4 zr1 hzn kdT hzp1) ?_
                                      refine k_aload_n 619 620 C dL_copies_619 rfl 14 rfl ?_
                                      refine k_iload_n 620 621 C dL_copies_620 rfl 15 rfl ?_
                                      refine k_iload 621 623 C dL_copies_621 rfl 13 rfl ?_
                                      refine k_iconst 623 624 C dL_copies_623 rfl (v := 4) rfl ?_
                                      refine k_callVL 624 627 C [_, _, _] [_] dL_copies_624 rfl (ct_X3_pointInfo hA g54) mi_X3_pointInfo ml_L_19 im_X3_pointInfo se_X3_pointInfo ci_X3 (IsArm.o ‹_›) rfl rfl ⟨Nat.le_of_ble_eq_true rfl, Nat.le_of_ble_eq_true rfl⟩ (Nat.le_of_ble_eq_true rfl) (Nat.zero_le _) (Nat.zero_le _) (fun r624 V624 p624 => ?_)
                                      obtain ⟨rfl, rfl⟩ := And.intro p624.1.symm p624.2
                                      refine k_rwL (pj_4 zr1 hzd1 kdD hzp) ?_
                                      have zjj : jI T' zp = jI (kdr S zd) zp := by
                                        have zl := cf.2.2.2.2.1 zp hzp
                                        unfold jI
                                        by_cases zz : rl (kdr S zd) zp = -1
                                        · rw [if_pos zz, if_pos (zl.mpr zz)]
                                        · rw [if_neg zz, if_neg (fun zy => zz (zl.mp zy))]
                                      refine k_lcmp_eq 627 628 633 631 C dL_copies_627 rfl dL_copies_628 (by decide) rfl (fun h628 => ?_) (fun h628 => ?_)
                                      · refine k_iinc 633 636 C [(18, _), (19, _), (40, _), (38, _), (36, _), (34, _), (32, _), (30, _), (28, _), (26, _), (24, _), (22, _), (20, _), (17, _), (0, _), (1, _), (3, _), (4, _), (5, _), (6, _), (7, _), (8, _), (9, _), (10, _), (11, _), (15, _), (16, _)] (nI (zp + 1)) dL_copies_633 rfl 13 rfl (nI_1 (zp)) (by decide) rfl ?_
                                        refine k_goto 636 361 C dL_copies_636 (by decide) ?_
                                        refine k_perm [0, 13, 14, 15, 16, 17, 18, 19, 20, 21, 22, 23, 24, 25, 26] (L' := [(18, _), (17, _), (0, _), (1, _), (3, _), (4, _), (5, _), (6, _), (7, _), (8, _), (9, _), (10, _), (11, _), (15, _), (16, _)]) rfl ?_
                                        exact ih361 (rn (kdr S zd) - (zp + 1)) (by omega) (zp + 1) rfl (by omega)
                                      · exact absurd zjj h628
                                    · exact absurd h389 (by decide)
                                  · exact absurd ayy.2.2.2.2 h599
                        · exact absurd h442 (by decide)
                    · exact absurd axx.2.2.2.2 h599
                · exact absurd h575 (by decide)
              · refine k_iconst 566 567 C dL_copies_566 rfl (v := 1) rfl ?_
                refine k_goto 567 571 C dL_copies_567 (by decide) ?_
                refine k_istore 571 573 C [(40, _), (38, _), (36, _), (34, _), (32, _), (30, _), (28, _), (26, _), (24, _), (22, _), (20, _), (19, _), (17, _), (18, _), (0, _), (1, _), (3, _), (4, _), (5, _), (6, _), (7, _), (8, _), (9, _), (10, _), (11, _), (15, _), (16, _)] dL_copies_571 rfl (by decide) rfl ?_
                refine k_iload 573 575 C dL_copies_573 rfl 0 rfl ?_
                refine k_if_eq 575 585 578 C dL_copies_575 (by decide) rfl (fun h575 => ?_) (fun h575 => ?_)
                · exact absurd h575 (by decide)
                · refine k_lload 578 580 C dL_copies_578 rfl 2 rfl ?_
                  refine k_lconst 580 581 C dL_copies_580 rfl (v := 0) rfl ?_
                  refine k_lcmp_ne 581 582 602 585 C dL_copies_581 rfl dL_copies_582 (by decide) rfl (fun h582 => ?_) (fun h582 => ?_)
                  · exact absurd (axx.2.2.1 h563) h582
                  · refine k_lload 585 587 C dL_copies_585 rfl 2 rfl ?_
                    refine k_lload 587 589 C dL_copies_587 rfl 1 rfl ?_
                    refine k_lcmp_gt 589 590 602 593 C dL_copies_589 rfl dL_copies_590 (by decide) rfl (fun h590 => ?_) (fun h590 => ?_)
                    · exact absurd h590 axx.2.2.2.1
                    · refine k_lload 593 595 C dL_copies_593 rfl 2 rfl ?_
                      refine k_lneg 595 596 C dL_copies_595 rfl  ?_
                      refine k_lload 596 598 C dL_copies_596 rfl 1 rfl ?_
                      refine k_lcmp_le 598 599 604 602 C dL_copies_598 rfl dL_copies_599 (by decide) rfl (fun h599 => ?_) (fun h599 => ?_)
                      · refine k_iinc 604 607 C [(19, _), (40, _), (38, _), (36, _), (34, _), (32, _), (30, _), (28, _), (26, _), (24, _), (22, _), (20, _), (17, _), (18, _), (0, _), (1, _), (3, _), (4, _), (5, _), (6, _), (7, _), (8, _), (9, _), (10, _), (11, _), (15, _), (16, _)] (nI (1)) dL_copies_604 rfl 11 rfl (nI_1 (0)) (by decide) rfl ?_
                        refine k_goto 607 386 C dL_copies_607 (by decide) ?_
                        refine k_iload 386 388 C dL_copies_386 rfl 0 rfl ?_
                        refine k_iconst 388 389 C dL_copies_388 rfl (v := 2) rfl ?_
                        refine k_icmp_ge 389 610 392 C dL_copies_389 (by decide) rfl (fun h389 => ?_) (fun h389 => ?_)
                        · exact absurd h389 (by decide)
                        · refine k_aload_n 392 393 C dL_copies_392 rfl 14 rfl ?_
                          refine k_iload_n 393 394 C dL_copies_393 rfl 15 rfl ?_
                          refine k_iload 394 396 C dL_copies_394 rfl 13 rfl ?_
                          refine k_iconst 396 397 C dL_copies_396 rfl (v := 2) rfl ?_
                          refine k_iload 397 399 C dL_copies_397 rfl 0 rfl ?_
                          refine k_imul 399 400 C dL_copies_399 rfl  ?_
                          refine k_rwI (y := nI (2)) (pk_mul (2) (1)) ?_
                          refine k_callVL 400 403 C [_, _, _] [] dL_copies_400 rfl (ct_X3_pointInfo hA g54) mi_X3_pointInfo ml_L_19 im_X3_pointInfo se_X3_pointInfo ci_X3 (IsArm.o ‹_›) rfl rfl ⟨Nat.le_of_ble_eq_true rfl, Nat.le_of_ble_eq_true rfl⟩ (Nat.le_of_ble_eq_true rfl) (Nat.zero_le _) (Nat.zero_le _) (fun r400 V400 p400 => ?_)
                          obtain ⟨rfl, rfl⟩ := And.intro p400.1.symm p400.2
                          refine k_rwL (pj_2 zr1 hzd1 kdD hzp) ?_
                          refine k_lstore 403 405 C [(20, _), (19, _), (40, _), (38, _), (36, _), (34, _), (32, _), (30, _), (28, _), (26, _), (24, _), (22, _), (17, _), (18, _), (0, _), (1, _), (3, _), (4, _), (5, _), (6, _), (7, _), (8, _), (9, _), (10, _), (11, _), (15, _), (16, _)] dL_copies_403 rfl (by decide) rfl ?_
                          refine k_aload_n 405 406 C dL_copies_405 rfl 14 rfl ?_
                          refine k_iload_n 406 407 C dL_copies_406 rfl 15 rfl ?_
                          refine k_iload 407 409 C dL_copies_407 rfl 13 rfl ?_
                          refine k_iconst 409 410 C dL_copies_409 rfl (v := 2) rfl ?_
                          refine k_iload 410 412 C dL_copies_410 rfl 1 rfl ?_
                          refine k_imul 412 413 C dL_copies_412 rfl  ?_
                          refine k_rwI (y := nI (2)) (pk_mul (2) (1)) ?_
                          refine k_iconst 413 414 C dL_copies_413 rfl (v := 1) rfl ?_
                          refine k_iadd 414 415 C dL_copies_414 rfl  ?_
                          refine k_rwI (y := nI (3)) (nI_add (2) (1)) ?_
                          refine k_callVL 415 418 C [_, _, _] [] dL_copies_415 rfl (ct_X3_pointInfo hA g54) mi_X3_pointInfo ml_L_19 im_X3_pointInfo se_X3_pointInfo ci_X3 (IsArm.o ‹_›) rfl rfl ⟨Nat.le_of_ble_eq_true rfl, Nat.le_of_ble_eq_true rfl⟩ (Nat.le_of_ble_eq_true rfl) (Nat.zero_le _) (Nat.zero_le _) (fun r415 V415 p415 => ?_)
                          obtain ⟨rfl, rfl⟩ := And.intro p415.1.symm p415.2
                          refine k_rwL (pj_3 zr1 hzd1 kdD hzp) ?_
                          refine k_lstore 418 420 C [(22, _), (20, _), (19, _), (40, _), (38, _), (36, _), (34, _), (32, _), (30, _), (28, _), (26, _), (24, _), (17, _), (18, _), (0, _), (1, _), (3, _), (4, _), (5, _), (6, _), (7, _), (8, _), (9, _), (10, _), (11, _), (15, _), (16, _)] dL_copies_418 rfl (by decide) rfl ?_
                          refine k_aload_n 420 421 C dL_copies_420 rfl 14 rfl ?_
                          refine k_iconst 421 422 C dL_copies_421 rfl (v := 3) rfl ?_
                          refine k_iload 422 424 C dL_copies_422 rfl 2 rfl ?_
                          refine k_iadd 424 425 C dL_copies_424 rfl  ?_
                          refine k_rwI (y := nI (4)) (nI_add (3) (1)) ?_
                          refine k_callVI 425 428 C [_] [] dL_copies_425 rfl (ct_X3_count hA g54 t54) mi_X3_count ml_L_9 im_X3_count se_X3_count ci_X3 (IsArm.o ‹_›) rfl rfl ⟨Nat.le_of_ble_eq_true rfl, Nat.le_of_ble_eq_true rfl⟩ (Nat.le_of_ble_eq_true rfl) (Nat.zero_le _) (Nat.zero_le _) (fun r425 V425 p425 => ?_)
                          obtain ⟨rfl, rfl⟩ := And.intro p425.1.symm p425.2
                          refine k_rwI (cCnt_4.trans (zkf 3 (by decide) (by decide) (by decide) (by decide))) ?_
                          refine k_i2l 428 429 C dL_copies_428 rfl  ?_
                          refine k_lstore 429 431 C [(24, _), (22, _), (20, _), (19, _), (40, _), (38, _), (36, _), (34, _), (32, _), (30, _), (28, _), (26, _), (17, _), (18, _), (0, _), (1, _), (3, _), (4, _), (5, _), (6, _), (7, _), (8, _), (9, _), (10, _), (11, _), (15, _), (16, _)] dL_copies_429 rfl (by decide) rfl ?_
                          refine k_lload 431 433 C dL_copies_431 rfl 0 rfl ?_
                          refine k_lload 433 435 C dL_copies_433 rfl 1 rfl ?_
                          refine k_lmul 435 436 C dL_copies_435 rfl  ?_
                          refine k_iload 436 438 C dL_copies_436 rfl 24 rfl ?_
                          refine k_i2l 438 439 C dL_copies_438 rfl  ?_
                          refine k_lmul 439 440 C dL_copies_439 rfl  ?_
                          refine k_iload 440 442 C dL_copies_440 rfl 3 rfl ?_
                          refine k_if_ne 442 450 445 C dL_copies_442 (by decide) rfl (fun h442 => ?_) (fun h442 => ?_)
                          · refine k_iload 450 452 C dL_copies_450 rfl 26 rfl ?_
                            refine k_iload 452 454 C dL_copies_452 rfl 23 rfl ?_
                            refine k_imul 454 455 C dL_copies_454 rfl  ?_
                            refine k_i2l 455 456 C dL_copies_455 rfl  ?_
                            refine k_lload 456 458 C dL_copies_456 rfl 2 rfl ?_
                            refine k_lload 458 460 C dL_copies_458 rfl 0 rfl ?_
                            refine k_lload 460 462 C dL_copies_460 rfl 1 rfl ?_
                            refine k_lmul 462 463 C dL_copies_462 rfl  ?_
                            refine k_lsub 463 464 C dL_copies_463 rfl  ?_
                            refine k_lmul 464 465 C dL_copies_464 rfl  ?_
                            refine k_ladd 465 466 C dL_copies_465 rfl  ?_
                            refine k_rwL (aimY_J zr bDY bNY) ?_
                            refine k_lstore 466 468 C [(26, _), (24, _), (22, _), (20, _), (19, _), (40, _), (38, _), (36, _), (34, _), (32, _), (30, _), (28, _), (17, _), (18, _), (0, _), (1, _), (3, _), (4, _), (5, _), (6, _), (7, _), (8, _), (9, _), (10, _), (11, _), (15, _), (16, _)] dL_copies_466 rfl (by decide) rfl ?_
                            refine k_lload 468 470 C dL_copies_468 rfl 2 rfl ?_
                            refine k_iload 470 472 C dL_copies_470 rfl 24 rfl ?_
                            refine k_i2l 472 473 C dL_copies_472 rfl  ?_
                            refine k_lmul 473 474 C dL_copies_473 rfl  ?_
                            refine k_rwL (y := J (LD (iY (kdr S zd) zp) (iP (kdr S zd)) * bI S)) (by rw [i32_J (kf S 1), J_mul]) ?_
                            refine k_lstore 474 476 C [(28, _), (26, _), (24, _), (22, _), (20, _), (19, _), (40, _), (38, _), (36, _), (34, _), (32, _), (30, _), (17, _), (18, _), (0, _), (1, _), (3, _), (4, _), (5, _), (6, _), (7, _), (8, _), (9, _), (10, _), (11, _), (15, _), (16, _)] dL_copies_474 rfl (by decide) rfl ?_
                            refine k_aload_n 476 477 C dL_copies_476 rfl 14 rfl ?_
                            refine k_iload 477 479 C dL_copies_477 rfl 22 rfl ?_
                            refine k_iload 479 481 C dL_copies_479 rfl 13 rfl ?_
                            refine k_iconst 481 482 C dL_copies_481 rfl (v := 2) rfl ?_
                            refine k_iload 482 484 C dL_copies_482 rfl 5 rfl ?_
                            refine k_imul 484 485 C dL_copies_484 rfl  ?_
                            refine k_rwI (y := nI (2)) (pk_mul (2) (1)) ?_
                            refine k_callVL 485 488 C [_, _, _] [] dL_copies_485 rfl (ct_X3_pointInfo hA g54) mi_X3_pointInfo ml_L_19 im_X3_pointInfo se_X3_pointInfo ci_X3 (IsArm.o ‹_›) rfl rfl ⟨Nat.le_of_ble_eq_true rfl, Nat.le_of_ble_eq_true rfl⟩ (Nat.le_of_ble_eq_true rfl) (Nat.zero_le _) (Nat.zero_le _) (fun r485 V485 p485 => ?_)
                            obtain ⟨rfl, rfl⟩ := And.intro p485.1.symm p485.2
                            refine k_rwL (pj_2 zr1 hzn kdT hzp1) ?_
                            refine k_lstore 488 490 C [(30, _), (28, _), (26, _), (24, _), (22, _), (20, _), (19, _), (40, _), (38, _), (36, _), (34, _), (32, _), (17, _), (18, _), (0, _), (1, _), (3, _), (4, _), (5, _), (6, _), (7, _), (8, _), (9, _), (10, _), (11, _), (15, _), (16, _)] dL_copies_488 rfl (by decide) rfl ?_
                            refine k_aload_n 490 491 C dL_copies_490 rfl 14 rfl ?_
                            refine k_iload 491 493 C dL_copies_491 rfl 22 rfl ?_
                            refine k_iload 493 495 C dL_copies_493 rfl 13 rfl ?_
                            refine k_iconst 495 496 C dL_copies_495 rfl (v := 2) rfl ?_
                            refine k_iload 496 498 C dL_copies_496 rfl 6 rfl ?_
                            refine k_imul 498 499 C dL_copies_498 rfl  ?_
                            refine k_rwI (y := nI (2)) (pk_mul (2) (1)) ?_
                            refine k_iconst 499 500 C dL_copies_499 rfl (v := 1) rfl ?_
                            refine k_iadd 500 501 C dL_copies_500 rfl  ?_
                            refine k_rwI (y := nI (3)) (nI_add (2) (1)) ?_
                            refine k_callVL 501 504 C [_, _, _] [] dL_copies_501 rfl (ct_X3_pointInfo hA g54) mi_X3_pointInfo ml_L_19 im_X3_pointInfo se_X3_pointInfo ci_X3 (IsArm.o ‹_›) rfl rfl ⟨Nat.le_of_ble_eq_true rfl, Nat.le_of_ble_eq_true rfl⟩ (Nat.le_of_ble_eq_true rfl) (Nat.zero_le _) (Nat.zero_le _) (fun r501 V501 p501 => ?_)
                            obtain ⟨rfl, rfl⟩ := And.intro p501.1.symm p501.2
                            refine k_rwL (pj_3 zr1 hzn kdT hzp1) ?_
                            refine k_lstore 504 506 C [(32, _), (30, _), (28, _), (26, _), (24, _), (22, _), (20, _), (19, _), (40, _), (38, _), (36, _), (34, _), (17, _), (18, _), (0, _), (1, _), (3, _), (4, _), (5, _), (6, _), (7, _), (8, _), (9, _), (10, _), (11, _), (15, _), (16, _)] dL_copies_504 rfl (by decide) rfl ?_
                            refine k_lload 506 508 C dL_copies_506 rfl 0 rfl ?_
                            refine k_lload 508 510 C dL_copies_508 rfl 2 rfl ?_
                            refine k_callSL 510 513 C [_, _] [] dL_copies_510 rfl (ct_L_common ayy.1.1 ayy.1.2.1 ayy.1.2.2) mi_L_common ml_L_25 st_L_common rfl rfl ⟨Nat.le_of_ble_eq_true rfl, Nat.le_of_ble_eq_true rfl⟩ (Nat.le_of_ble_eq_true rfl) (Nat.zero_le _) (Nat.zero_le _) (fun r510 V510 p510 => ?_)
                            obtain ⟨rfl, rfl⟩ := And.intro p510.1.symm p510.2
                            refine k_lstore 513 515 C [(34, _), (32, _), (30, _), (28, _), (26, _), (24, _), (22, _), (20, _), (19, _), (40, _), (38, _), (36, _), (17, _), (18, _), (0, _), (1, _), (3, _), (4, _), (5, _), (6, _), (7, _), (8, _), (9, _), (10, _), (11, _), (15, _), (16, _)] dL_copies_513 rfl (by decide) rfl ?_
                            refine k_lload 515 517 C dL_copies_515 rfl 2 rfl ?_
                            refine k_lload 517 519 C dL_copies_517 rfl 3 rfl ?_
                            refine k_lload 519 521 C dL_copies_519 rfl 0 rfl ?_
                            refine k_ldiv 521 522 C dL_copies_521 rfl (by first | exact axx.ne | exact ayy.ne) ?_
                            refine k_lmul 522 523 C dL_copies_522 rfl  ?_
                            refine k_lload 523 525 C dL_copies_523 rfl 4 rfl ?_
                            refine k_lload 525 527 C dL_copies_525 rfl 1 rfl ?_
                            refine k_lload 527 529 C dL_copies_527 rfl 0 rfl ?_
                            refine k_ldiv 529 530 C dL_copies_529 rfl (by first | exact axx.ne | exact ayy.ne) ?_
                            refine k_lmul 530 531 C dL_copies_530 rfl  ?_
                            refine k_lsub 531 532 C dL_copies_531 rfl  ?_
                            refine k_rwL (farE_J ayy) ?_
                            refine k_lstore 532 534 C [(36, _), (34, _), (32, _), (30, _), (28, _), (26, _), (24, _), (22, _), (20, _), (19, _), (40, _), (38, _), (17, _), (18, _), (0, _), (1, _), (3, _), (4, _), (5, _), (6, _), (7, _), (8, _), (9, _), (10, _), (11, _), (15, _), (16, _)] dL_copies_532 rfl (by decide) rfl ?_
                            refine k_aload_n 534 535 C dL_copies_534 rfl 14 rfl ?_
                            refine k_bipush 535 537 C dL_copies_535 rfl (v := 6) rfl ?_
                            refine k_callVI 537 540 C [_] [] dL_copies_537 rfl (ct_X3_count hA g54 t54) mi_X3_count ml_L_9 im_X3_count se_X3_count ci_X3 (IsArm.o ‹_›) rfl rfl ⟨Nat.le_of_ble_eq_true rfl, Nat.le_of_ble_eq_true rfl⟩ (Nat.le_of_ble_eq_true rfl) (Nat.zero_le _) (Nat.zero_le _) (fun r537 V537 p537 => ?_)
                            obtain ⟨rfl, rfl⟩ := And.intro p537.1.symm p537.2
                            refine k_rwI (cCnt_6.trans (congrFun zks 1)) ?_
                            refine k_i2l 540 541 C dL_copies_540 rfl  ?_
                            refine k_rwL (i32_J _) ?_
                            refine k_lload 541 543 C dL_copies_541 rfl 2 rfl ?_
                            refine k_lload 543 545 C dL_copies_543 rfl 1 rfl ?_
                            refine k_ldiv 545 546 C dL_copies_545 rfl (by first | exact axx.ne | exact ayy.ne) ?_
                            refine k_lmul 546 547 C dL_copies_546 rfl  ?_
                            refine k_lload 547 549 C dL_copies_547 rfl 4 rfl ?_
                            refine k_lmul 549 550 C dL_copies_549 rfl  ?_
                            refine k_rwL (farP_J ayy) ?_
                            refine k_lstore 550 552 C [(38, _), (36, _), (34, _), (32, _), (30, _), (28, _), (26, _), (24, _), (22, _), (20, _), (19, _), (40, _), (17, _), (18, _), (0, _), (1, _), (3, _), (4, _), (5, _), (6, _), (7, _), (8, _), (9, _), (10, _), (11, _), (15, _), (16, _)] dL_copies_550 rfl (by decide) rfl ?_
                            refine k_aload_n 552 553 C dL_copies_552 rfl 14 rfl ?_
                            refine k_iload 553 555 C dL_copies_553 rfl 22 rfl ?_
                            refine k_iload 555 557 C dL_copies_555 rfl 13 rfl ?_
                            refine k_iconst 557 558 C dL_copies_557 rfl (v := 4) rfl ?_
                            refine k_callVL 558 561 C [_, _, _] [] dL_copies_558 rfl (ct_X3_pointInfo hA g54) mi_X3_pointInfo ml_L_19 im_X3_pointInfo se_X3_pointInfo ci_X3 (IsArm.o ‹_›) rfl rfl ⟨Nat.le_of_ble_eq_true rfl, Nat.le_of_ble_eq_true rfl⟩ (Nat.le_of_ble_eq_true rfl) (Nat.zero_le _) (Nat.zero_le _) (fun r558 V558 p558 => ?_)
                            obtain ⟨rfl, rfl⟩ := And.intro p558.1.symm p558.2
                            refine k_rwL (pj_4 zr1 hzn kdT hzp1) ?_
                            refine k_lconst 561 562 C dL_copies_561 rfl (v := 0) rfl ?_
                            refine k_lcmp_ne 562 563 570 566 C dL_copies_562 rfl dL_copies_563 (by decide) rfl (fun h563 => ?_) (fun h563 => ?_)
                            · refine k_iconst 570 571 C dL_copies_570 rfl (v := 0) rfl ?_
                              refine k_istore 571 573 C [(40, _), (38, _), (36, _), (34, _), (32, _), (30, _), (28, _), (26, _), (24, _), (22, _), (20, _), (19, _), (17, _), (18, _), (0, _), (1, _), (3, _), (4, _), (5, _), (6, _), (7, _), (8, _), (9, _), (10, _), (11, _), (15, _), (16, _)] dL_copies_571 rfl (by decide) rfl ?_
                              refine k_iload 573 575 C dL_copies_573 rfl 0 rfl ?_
                              refine k_if_eq 575 585 578 C dL_copies_575 (by decide) rfl (fun h575 => ?_) (fun h575 => ?_)
                              · refine k_lload 585 587 C dL_copies_585 rfl 2 rfl ?_
                                refine k_lload 587 589 C dL_copies_587 rfl 1 rfl ?_
                                refine k_lcmp_gt 589 590 602 593 C dL_copies_589 rfl dL_copies_590 (by decide) rfl (fun h590 => ?_) (fun h590 => ?_)
                                · exact absurd h590 ayy.2.2.2.1
                                · refine k_lload 593 595 C dL_copies_593 rfl 2 rfl ?_
                                  refine k_lneg 595 596 C dL_copies_595 rfl  ?_
                                  refine k_lload 596 598 C dL_copies_596 rfl 1 rfl ?_
                                  refine k_lcmp_le 598 599 604 602 C dL_copies_598 rfl dL_copies_599 (by decide) rfl (fun h599 => ?_) (fun h599 => ?_)
                                  · refine k_iinc 604 607 C [(19, _), (40, _), (38, _), (36, _), (34, _), (32, _), (30, _), (28, _), (26, _), (24, _), (22, _), (20, _), (17, _), (18, _), (0, _), (1, _), (3, _), (4, _), (5, _), (6, _), (7, _), (8, _), (9, _), (10, _), (11, _), (15, _), (16, _)] (nI (2)) dL_copies_604 rfl 11 rfl (nI_1 (1)) (by decide) rfl ?_
                                    refine k_goto 607 386 C dL_copies_607 (by decide) ?_
                                    refine k_iload 386 388 C dL_copies_386 rfl 0 rfl ?_
                                    refine k_iconst 388 389 C dL_copies_388 rfl (v := 2) rfl ?_
                                    refine k_icmp_ge 389 610 392 C dL_copies_389 (by decide) rfl (fun h389 => ?_) (fun h389 => ?_)
                                    · refine k_aload_n 610 611 C dL_copies_610 rfl 14 rfl ?_
                                      refine k_iload 611 613 C dL_copies_611 rfl 22 rfl ?_
                                      refine k_iload 613 615 C dL_copies_613 rfl 13 rfl ?_
                                      refine k_iconst 615 616 C dL_copies_615 rfl (v := 4) rfl ?_
                                      refine k_callVL 616 619 C [_, _, _] [] dL_copies_616 rfl (ct_X3_pointInfo hA g54) mi_X3_pointInfo ml_L_19 im_X3_pointInfo se_X3_pointInfo ci_X3 (IsArm.o ‹_›) rfl rfl ⟨Nat.le_of_ble_eq_true rfl, Nat.le_of_ble_eq_true rfl⟩ (Nat.le_of_ble_eq_true rfl) (Nat.zero_le _) (Nat.zero_le _) (fun r616 V616 p616 => ?_)
                                      obtain ⟨rfl, rfl⟩ := And.intro p616.1.symm p616.2
                                      refine k_rwL (pj_4 zr1 hzn kdT hzp1) ?_
                                      refine k_aload_n 619 620 C dL_copies_619 rfl 14 rfl ?_
                                      refine k_iload_n 620 621 C dL_copies_620 rfl 15 rfl ?_
                                      refine k_iload 621 623 C dL_copies_621 rfl 13 rfl ?_
                                      refine k_iconst 623 624 C dL_copies_623 rfl (v := 4) rfl ?_
                                      refine k_callVL 624 627 C [_, _, _] [_] dL_copies_624 rfl (ct_X3_pointInfo hA g54) mi_X3_pointInfo ml_L_19 im_X3_pointInfo se_X3_pointInfo ci_X3 (IsArm.o ‹_›) rfl rfl ⟨Nat.le_of_ble_eq_true rfl, Nat.le_of_ble_eq_true rfl⟩ (Nat.le_of_ble_eq_true rfl) (Nat.zero_le _) (Nat.zero_le _) (fun r624 V624 p624 => ?_)
                                      obtain ⟨rfl, rfl⟩ := And.intro p624.1.symm p624.2
                                      refine k_rwL (pj_4 zr1 hzd1 kdD hzp) ?_
                                      have zjj : jI T' zp = jI (kdr S zd) zp := by
                                        have zl := cf.2.2.2.2.1 zp hzp
                                        unfold jI
                                        by_cases zz : rl (kdr S zd) zp = -1
                                        · rw [if_pos zz, if_pos (zl.mpr zz)]
                                        · rw [if_neg zz, if_neg (fun zy => zz (zl.mp zy))]
                                      refine k_lcmp_eq 627 628 633 631 C dL_copies_627 rfl dL_copies_628 (by decide) rfl (fun h628 => ?_) (fun h628 => ?_)
                                      · refine k_iinc 633 636 C [(18, _), (19, _), (40, _), (38, _), (36, _), (34, _), (32, _), (30, _), (28, _), (26, _), (24, _), (22, _), (20, _), (17, _), (0, _), (1, _), (3, _), (4, _), (5, _), (6, _), (7, _), (8, _), (9, _), (10, _), (11, _), (15, _), (16, _)] (nI (zp + 1)) dL_copies_633 rfl 13 rfl (nI_1 (zp)) (by decide) rfl ?_
                                        refine k_goto 636 361 C dL_copies_636 (by decide) ?_
                                        refine k_perm [0, 13, 14, 15, 16, 17, 18, 19, 20, 21, 22, 23, 24, 25, 26] (L' := [(18, _), (17, _), (0, _), (1, _), (3, _), (4, _), (5, _), (6, _), (7, _), (8, _), (9, _), (10, _), (11, _), (15, _), (16, _)]) rfl ?_
                                        exact ih361 (rn (kdr S zd) - (zp + 1)) (by omega) (zp + 1) rfl (by omega)
                                      · exact absurd zjj h628
                                    · exact absurd h389 (by decide)
                                  · exact absurd ayy.2.2.2.2 h599
                              · exact absurd h575 (by decide)
                            · refine k_iconst 566 567 C dL_copies_566 rfl (v := 1) rfl ?_
                              refine k_goto 567 571 C dL_copies_567 (by decide) ?_
                              refine k_istore 571 573 C [(40, _), (38, _), (36, _), (34, _), (32, _), (30, _), (28, _), (26, _), (24, _), (22, _), (20, _), (19, _), (17, _), (18, _), (0, _), (1, _), (3, _), (4, _), (5, _), (6, _), (7, _), (8, _), (9, _), (10, _), (11, _), (15, _), (16, _)] dL_copies_571 rfl (by decide) rfl ?_
                              refine k_iload 573 575 C dL_copies_573 rfl 0 rfl ?_
                              refine k_if_eq 575 585 578 C dL_copies_575 (by decide) rfl (fun h575 => ?_) (fun h575 => ?_)
                              · exact absurd h575 (by decide)
                              · refine k_lload 578 580 C dL_copies_578 rfl 2 rfl ?_
                                refine k_lconst 580 581 C dL_copies_580 rfl (v := 0) rfl ?_
                                refine k_lcmp_ne 581 582 602 585 C dL_copies_581 rfl dL_copies_582 (by decide) rfl (fun h582 => ?_) (fun h582 => ?_)
                                · exact absurd (ayy.2.2.1 h563) h582
                                · refine k_lload 585 587 C dL_copies_585 rfl 2 rfl ?_
                                  refine k_lload 587 589 C dL_copies_587 rfl 1 rfl ?_
                                  refine k_lcmp_gt 589 590 602 593 C dL_copies_589 rfl dL_copies_590 (by decide) rfl (fun h590 => ?_) (fun h590 => ?_)
                                  · exact absurd h590 ayy.2.2.2.1
                                  · refine k_lload 593 595 C dL_copies_593 rfl 2 rfl ?_
                                    refine k_lneg 595 596 C dL_copies_595 rfl  ?_
                                    refine k_lload 596 598 C dL_copies_596 rfl 1 rfl ?_
                                    refine k_lcmp_le 598 599 604 602 C dL_copies_598 rfl dL_copies_599 (by decide) rfl (fun h599 => ?_) (fun h599 => ?_)
                                    · refine k_iinc 604 607 C [(19, _), (40, _), (38, _), (36, _), (34, _), (32, _), (30, _), (28, _), (26, _), (24, _), (22, _), (20, _), (17, _), (18, _), (0, _), (1, _), (3, _), (4, _), (5, _), (6, _), (7, _), (8, _), (9, _), (10, _), (11, _), (15, _), (16, _)] (nI (2)) dL_copies_604 rfl 11 rfl (nI_1 (1)) (by decide) rfl ?_
                                      refine k_goto 607 386 C dL_copies_607 (by decide) ?_
                                      refine k_iload 386 388 C dL_copies_386 rfl 0 rfl ?_
                                      refine k_iconst 388 389 C dL_copies_388 rfl (v := 2) rfl ?_
                                      refine k_icmp_ge 389 610 392 C dL_copies_389 (by decide) rfl (fun h389 => ?_) (fun h389 => ?_)
                                      · refine k_aload_n 610 611 C dL_copies_610 rfl 14 rfl ?_
                                        refine k_iload 611 613 C dL_copies_611 rfl 22 rfl ?_
                                        refine k_iload 613 615 C dL_copies_613 rfl 13 rfl ?_
                                        refine k_iconst 615 616 C dL_copies_615 rfl (v := 4) rfl ?_
                                        refine k_callVL 616 619 C [_, _, _] [] dL_copies_616 rfl (ct_X3_pointInfo hA g54) mi_X3_pointInfo ml_L_19 im_X3_pointInfo se_X3_pointInfo ci_X3 (IsArm.o ‹_›) rfl rfl ⟨Nat.le_of_ble_eq_true rfl, Nat.le_of_ble_eq_true rfl⟩ (Nat.le_of_ble_eq_true rfl) (Nat.zero_le _) (Nat.zero_le _) (fun r616 V616 p616 => ?_)
                                        obtain ⟨rfl, rfl⟩ := And.intro p616.1.symm p616.2
                                        refine k_rwL (pj_4 zr1 hzn kdT hzp1) ?_
                                        refine k_aload_n 619 620 C dL_copies_619 rfl 14 rfl ?_
                                        refine k_iload_n 620 621 C dL_copies_620 rfl 15 rfl ?_
                                        refine k_iload 621 623 C dL_copies_621 rfl 13 rfl ?_
                                        refine k_iconst 623 624 C dL_copies_623 rfl (v := 4) rfl ?_
                                        refine k_callVL 624 627 C [_, _, _] [_] dL_copies_624 rfl (ct_X3_pointInfo hA g54) mi_X3_pointInfo ml_L_19 im_X3_pointInfo se_X3_pointInfo ci_X3 (IsArm.o ‹_›) rfl rfl ⟨Nat.le_of_ble_eq_true rfl, Nat.le_of_ble_eq_true rfl⟩ (Nat.le_of_ble_eq_true rfl) (Nat.zero_le _) (Nat.zero_le _) (fun r624 V624 p624 => ?_)
                                        obtain ⟨rfl, rfl⟩ := And.intro p624.1.symm p624.2
                                        refine k_rwL (pj_4 zr1 hzd1 kdD hzp) ?_
                                        have zjj : jI T' zp = jI (kdr S zd) zp := by
                                          have zl := cf.2.2.2.2.1 zp hzp
                                          unfold jI
                                          by_cases zz : rl (kdr S zd) zp = -1
                                          · rw [if_pos zz, if_pos (zl.mpr zz)]
                                          · rw [if_neg zz, if_neg (fun zy => zz (zl.mp zy))]
                                        refine k_lcmp_eq 627 628 633 631 C dL_copies_627 rfl dL_copies_628 (by decide) rfl (fun h628 => ?_) (fun h628 => ?_)
                                        · refine k_iinc 633 636 C [(18, _), (19, _), (40, _), (38, _), (36, _), (34, _), (32, _), (30, _), (28, _), (26, _), (24, _), (22, _), (20, _), (17, _), (0, _), (1, _), (3, _), (4, _), (5, _), (6, _), (7, _), (8, _), (9, _), (10, _), (11, _), (15, _), (16, _)] (nI (zp + 1)) dL_copies_633 rfl 13 rfl (nI_1 (zp)) (by decide) rfl ?_
                                          refine k_goto 636 361 C dL_copies_636 (by decide) ?_
                                          refine k_perm [0, 13, 14, 15, 16, 17, 18, 19, 20, 21, 22, 23, 24, 25, 26] (L' := [(18, _), (17, _), (0, _), (1, _), (3, _), (4, _), (5, _), (6, _), (7, _), (8, _), (9, _), (10, _), (11, _), (15, _), (16, _)]) rfl ?_
                                          exact ih361 (rn (kdr S zd) - (zp + 1)) (by omega) (zp + 1) rfl (by omega)
                                        · exact absurd zjj h628
                                      · exact absurd h389 (by decide)
                                    · exact absurd ayy.2.2.2.2 h599
                          · exact absurd h442 (by decide)
                      · exact absurd axx.2.2.2.2 h599
      have join232 : KW E T V54 p l e { frames := 6, cells := 0, slots := 0, locals := 138 } s m args below meth c 41 0 0 (MQ below (va_Qi (fun (r : Int32) (V' : gV) => r = 1 ∧ (SQ V' a S h H ∨ ∃ S', SQ V' a S' (remN h) (remH S h H) ∧ GI S' (kk + 1) ∧ kn S' = kn S + 1)) (RepS E T) (gA E)) args s 0 0 (gA E)) 232 [(0, .ref a), (1, .int (nI zd)), (3, .int (nI (kn S))), (4, .int (nI (rn (kdr S zd)))), (5, .int (kf S 5)), (6, .int (kf S 7)), (7, .int (kf S 8)), (8, .int (kf S 9)), (9, .int (nI (kn S))), (10, .int (kf S 0)), (11, .int (kf S 1)), (12, .long (J (Int.gcd (LN (iS (kdr S zd)) (iP (kdr S zd)) * aI S) (LD (iS (kdr S zd)) (iP (kdr S zd)) * bI S) : Int))), (15, .int (sgX S))] [.int (sgY S)] := by
        refine k_istore 232 234 C [(16, _), (0, _), (1, _), (3, _), (4, _), (5, _), (6, _), (7, _), (8, _), (9, _), (10, _), (11, _), (12, _), (15, _)] dL_copies_232 rfl (by decide) rfl ?_
        refine k_iload 234 236 C dL_copies_234 rfl 9 rfl ?_
        refine k_iload_n 236 237 C dL_copies_236 rfl 3 rfl ?_
        refine k_icmp_ne 237 353 240 C dL_copies_237 (by decide) rfl (fun h237 => ?_) (fun h237 => ?_)
        · exact absurd rfl h237
        · refine k_aload_n 240 241 C dL_copies_240 rfl 1 rfl ?_
          refine k_iload 241 243 C dL_copies_241 rfl 9 rfl ?_
          refine k_iconst 243 244 C dL_copies_243 rfl (v := 1) rfl ?_
          refine k_callVI 244 247 C [_, _] [] dL_copies_244 rfl (ct_X3_drawing hA g54 (dr_nice zr1)) mi_X3_drawing ml_L_15 im_X3_drawing se_X3_drawing ci_X3 (IsArm.o ‹_›) rfl rfl ⟨Nat.le_of_ble_eq_true rfl, Nat.le_of_ble_eq_true rfl⟩ (Nat.le_of_ble_eq_true rfl) (Nat.zero_le _) (Nat.zero_le _) (fun r244 V244 p244 => ?_)
          obtain ⟨rfl, rfl⟩ := And.intro p244.1.symm p244.2
          refine k_rwI (y := nI zd) ((dg_1 zr1 hzn).trans zfr) ?_
          refine k_iload_n 247 248 C dL_copies_247 rfl 2 rfl ?_
          refine k_icmp_ne 248 353 251 C dL_copies_248 (by decide) rfl (fun h248 => ?_) (fun h248 => ?_)
          · exact absurd rfl h248
          · refine k_aload_n 251 252 C dL_copies_251 rfl 1 rfl ?_
            refine k_iload 252 254 C dL_copies_252 rfl 9 rfl ?_
            refine k_iconst 254 255 C dL_copies_254 rfl (v := 0) rfl ?_
            refine k_callVI 255 258 C [_, _] [] dL_copies_255 rfl (ct_X3_drawing hA g54 (dr_nice zr1)) mi_X3_drawing ml_L_15 im_X3_drawing se_X3_drawing ci_X3 (IsArm.o ‹_›) rfl rfl ⟨Nat.le_of_ble_eq_true rfl, Nat.le_of_ble_eq_true rfl⟩ (Nat.le_of_ble_eq_true rfl) (Nat.zero_le _) (Nat.zero_le _) (fun r255 V255 p255 => ?_)
            obtain ⟨rfl, rfl⟩ := And.intro p255.1.symm p255.2
            refine k_rwI (dj_0 zr1 hzn kdT) ?_
            refine k_iload 258 260 C dL_copies_258 rfl 4 rfl ?_
            refine k_icmp_ne 260 353 263 C dL_copies_260 (by decide) rfl (fun h260 => ?_) (fun h260 => ?_)
            · exact absurd (congrArg nI zrn) h260
            · refine k_aload_n 263 264 C dL_copies_263 rfl 1 rfl ?_
              refine k_iload 264 266 C dL_copies_264 rfl 9 rfl ?_
              refine k_iconst 266 267 C dL_copies_266 rfl (v := 0) rfl ?_
              refine k_callVI 267 270 C [_, _] [] dL_copies_267 rfl (ct_X3_ratio hA g54) mi_X3_ratio ml_L_42 im_X3_ratio se_X3_ratio ci_X3 (IsArm.o ‹_›) rfl rfl ⟨Nat.le_of_ble_eq_true rfl, Nat.le_of_ble_eq_true rfl⟩ (Nat.le_of_ble_eq_true rfl) (Nat.zero_le _) (Nat.zero_le _) (fun r267 V267 p267 => ?_)
              obtain ⟨rfl, rfl⟩ := And.intro p267.1.symm p267.2
              refine k_rwI (rj_0 zr1 hzn kdT) ?_
              refine k_i2l 270 271 C dL_copies_270 rfl  ?_
              refine k_rwL zj2.1 ?_
              refine k_lload 271 273 C dL_copies_271 rfl 12 rfl ?_
              refine k_lmul 273 274 C dL_copies_273 rfl  ?_
              refine k_rwL (J_mul _ _) ?_
              refine k_aload_n 274 275 C dL_copies_274 rfl 1 rfl ?_
              refine k_iload_n 275 276 C dL_copies_275 rfl 2 rfl ?_
              refine k_iconst 276 277 C dL_copies_276 rfl (v := 0) rfl ?_
              refine k_callVI 277 280 C [_, _] [_] dL_copies_277 rfl (ct_X3_ratio hA g54) mi_X3_ratio ml_L_42 im_X3_ratio se_X3_ratio ci_X3 (IsArm.o ‹_›) rfl rfl ⟨Nat.le_of_ble_eq_true rfl, Nat.le_of_ble_eq_true rfl⟩ (Nat.le_of_ble_eq_true rfl) (Nat.zero_le _) (Nat.zero_le _) (fun r277 V277 p277 => ?_)
              obtain ⟨rfl, rfl⟩ := And.intro p277.1.symm p277.2
              refine k_rwI (rj_0 zr1 hzd1 kdD) ?_
              refine k_i2l 280 281 C dL_copies_280 rfl  ?_
              refine k_rwL zj1.1 ?_
              refine k_iload 281 283 C dL_copies_281 rfl 10 rfl ?_
              refine k_i2l 283 284 C dL_copies_283 rfl  ?_
              refine k_rwL (i32_J _) ?_
              refine k_lmul 284 285 C dL_copies_284 rfl  ?_
              refine k_rwL (J_mul _ _) ?_
              refine k_lcmp_ne 285 286 353 289 C dL_copies_285 rfl dL_copies_286 (by decide) rfl (fun h286 => ?_) (fun h286 => ?_)
              · exact absurd (congrArg J zc1) h286
              · refine k_aload_n 289 290 C dL_copies_289 rfl 1 rfl ?_
                refine k_iload 290 292 C dL_copies_290 rfl 9 rfl ?_
                refine k_iconst 292 293 C dL_copies_292 rfl (v := 1) rfl ?_
                refine k_callVI 293 296 C [_, _] [] dL_copies_293 rfl (ct_X3_ratio hA g54) mi_X3_ratio ml_L_42 im_X3_ratio se_X3_ratio ci_X3 (IsArm.o ‹_›) rfl rfl ⟨Nat.le_of_ble_eq_true rfl, Nat.le_of_ble_eq_true rfl⟩ (Nat.le_of_ble_eq_true rfl) (Nat.zero_le _) (Nat.zero_le _) (fun r293 V293 p293 => ?_)
                obtain ⟨rfl, rfl⟩ := And.intro p293.1.symm p293.2
                refine k_rwI (rj_1 zr1 hzn kdT) ?_
                refine k_i2l 296 297 C dL_copies_296 rfl  ?_
                refine k_rwL zj2.2 ?_
                refine k_lload 297 299 C dL_copies_297 rfl 12 rfl ?_
                refine k_lmul 299 300 C dL_copies_299 rfl  ?_
                refine k_rwL (J_mul _ _) ?_
                refine k_aload_n 300 301 C dL_copies_300 rfl 1 rfl ?_
                refine k_iload_n 301 302 C dL_copies_301 rfl 2 rfl ?_
                refine k_iconst 302 303 C dL_copies_302 rfl (v := 1) rfl ?_
                refine k_callVI 303 306 C [_, _] [_] dL_copies_303 rfl (ct_X3_ratio hA g54) mi_X3_ratio ml_L_42 im_X3_ratio se_X3_ratio ci_X3 (IsArm.o ‹_›) rfl rfl ⟨Nat.le_of_ble_eq_true rfl, Nat.le_of_ble_eq_true rfl⟩ (Nat.le_of_ble_eq_true rfl) (Nat.zero_le _) (Nat.zero_le _) (fun r303 V303 p303 => ?_)
                obtain ⟨rfl, rfl⟩ := And.intro p303.1.symm p303.2
                refine k_rwI (rj_1 zr1 hzd1 kdD) ?_
                refine k_i2l 306 307 C dL_copies_306 rfl  ?_
                refine k_rwL zj1.2 ?_
                refine k_iload 307 309 C dL_copies_307 rfl 11 rfl ?_
                refine k_i2l 309 310 C dL_copies_309 rfl  ?_
                refine k_rwL (i32_J _) ?_
                refine k_lmul 310 311 C dL_copies_310 rfl  ?_
                refine k_rwL (J_mul _ _) ?_
                refine k_lcmp_ne 311 312 353 315 C dL_copies_311 rfl dL_copies_312 (by decide) rfl (fun h312 => ?_) (fun h312 => ?_)
                · exact absurd (congrArg J zc2) h312
                · refine k_aload_n 315 316 C dL_copies_315 rfl 1 rfl ?_
                  refine k_iload 316 318 C dL_copies_316 rfl 9 rfl ?_
                  refine k_iconst 318 319 C dL_copies_318 rfl (v := 4) rfl ?_
                  refine k_callVI 319 322 C [_, _] [] dL_copies_319 rfl (ct_X3_drawing hA g54 (dr_nice zr1)) mi_X3_drawing ml_L_15 im_X3_drawing se_X3_drawing ci_X3 (IsArm.o ‹_›) rfl rfl ⟨Nat.le_of_ble_eq_true rfl, Nat.le_of_ble_eq_true rfl⟩ (Nat.le_of_ble_eq_true rfl) (Nat.zero_le _) (Nat.zero_le _) (fun r319 V319 p319 => ?_)
                  obtain ⟨rfl, rfl⟩ := And.intro p319.1.symm p319.2
                  refine k_rwI (dj_4 zr1 hzn kdT) ?_
                  refine k_aload_n 322 323 C dL_copies_322 rfl 1 rfl ?_
                  refine k_iload_n 323 324 C dL_copies_323 rfl 2 rfl ?_
                  refine k_iconst 324 325 C dL_copies_324 rfl (v := 4) rfl ?_
                  refine k_callVI 325 328 C [_, _] [_] dL_copies_325 rfl (ct_X3_drawing hA g54 (dr_nice zr1)) mi_X3_drawing ml_L_15 im_X3_drawing se_X3_drawing ci_X3 (IsArm.o ‹_›) rfl rfl ⟨Nat.le_of_ble_eq_true rfl, Nat.le_of_ble_eq_true rfl⟩ (Nat.le_of_ble_eq_true rfl) (Nat.zero_le _) (Nat.zero_le _) (fun r325 V325 p325 => ?_)
                  obtain ⟨rfl, rfl⟩ := And.intro p325.1.symm p325.2
                  refine k_rwI (dj_4 zr1 hzd1 kdD) ?_
                  refine k_iload 328 330 C dL_copies_328 rfl 13 rfl ?_
                  refine k_imul 330 331 C dL_copies_330 rfl  ?_
                  refine k_icmp_ne 331 353 334 C dL_copies_331 (by decide) rfl (fun h331 => ?_) (fun h331 => ?_)
                  · exact absurd zs1 h331
                  · refine k_aload_n 334 335 C dL_copies_334 rfl 1 rfl ?_
                    refine k_iload 335 337 C dL_copies_335 rfl 9 rfl ?_
                    refine k_iconst 337 338 C dL_copies_337 rfl (v := 5) rfl ?_
                    refine k_callVI 338 341 C [_, _] [] dL_copies_338 rfl (ct_X3_drawing hA g54 (dr_nice zr1)) mi_X3_drawing ml_L_15 im_X3_drawing se_X3_drawing ci_X3 (IsArm.o ‹_›) rfl rfl ⟨Nat.le_of_ble_eq_true rfl, Nat.le_of_ble_eq_true rfl⟩ (Nat.le_of_ble_eq_true rfl) (Nat.zero_le _) (Nat.zero_le _) (fun r338 V338 p338 => ?_)
                    obtain ⟨rfl, rfl⟩ := And.intro p338.1.symm p338.2
                    refine k_rwI (dj_5 zr1 hzn kdT) ?_
                    refine k_aload_n 341 342 C dL_copies_341 rfl 1 rfl ?_
                    refine k_iload_n 342 343 C dL_copies_342 rfl 2 rfl ?_
                    refine k_iconst 343 344 C dL_copies_343 rfl (v := 5) rfl ?_
                    refine k_callVI 344 347 C [_, _] [_] dL_copies_344 rfl (ct_X3_drawing hA g54 (dr_nice zr1)) mi_X3_drawing ml_L_15 im_X3_drawing se_X3_drawing ci_X3 (IsArm.o ‹_›) rfl rfl ⟨Nat.le_of_ble_eq_true rfl, Nat.le_of_ble_eq_true rfl⟩ (Nat.le_of_ble_eq_true rfl) (Nat.zero_le _) (Nat.zero_le _) (fun r344 V344 p344 => ?_)
                    obtain ⟨rfl, rfl⟩ := And.intro p344.1.symm p344.2
                    refine k_rwI (dj_5 zr1 hzd1 kdD) ?_
                    refine k_iload 347 349 C dL_copies_347 rfl 0 rfl ?_
                    refine k_imul 349 350 C dL_copies_349 rfl  ?_
                    refine k_icmp_eq 350 355 353 C dL_copies_350 (by decide) rfl (fun h350 => ?_) (fun h350 => ?_)
                    · refine k_iconst 355 356 C dL_copies_355 rfl (v := 0) rfl ?_
                      refine k_istore 356 358 C [(17, _), (16, _), (0, _), (1, _), (3, _), (4, _), (5, _), (6, _), (7, _), (8, _), (9, _), (10, _), (11, _), (12, _), (15, _)] dL_copies_356 rfl (by decide) rfl ?_
                      refine k_iconst 358 359 C dL_copies_358 rfl (v := 0) rfl ?_
                      refine k_istore 359 361 C [(18, _), (17, _), (16, _), (0, _), (1, _), (3, _), (4, _), (5, _), (6, _), (7, _), (8, _), (9, _), (10, _), (11, _), (12, _), (15, _)] dL_copies_359 rfl (by decide) rfl ?_
                      refine k_perm [0, 1, 3, 4, 5, 6, 7, 8, 9, 10, 11, 12, 13, 15, 2] (L' := [(18, _), (17, _), (0, _), (1, _), (3, _), (4, _), (5, _), (6, _), (7, _), (8, _), (9, _), (10, _), (11, _), (15, _), (16, _)]) rfl ?_
                      exact loop361 _ 0 rfl (Nat.zero_le _)
                    · exact absurd zs2 h350
      have join219 : KW E T V54 p l e { frames := 6, cells := 0, slots := 0, locals := 138 } s m args below meth c 41 0 0 (MQ below (va_Qi (fun (r : Int32) (V' : gV) => r = 1 ∧ (SQ V' a S h H ∨ ∃ S', SQ V' a S' (remN h) (remH S h H) ∧ GI S' (kk + 1) ∧ kn S' = kn S + 1)) (RepS E T) (gA E)) args s 0 0 (gA E)) 219 [(0, .ref a), (1, .int (nI zd)), (3, .int (nI (kn S))), (4, .int (nI (rn (kdr S zd)))), (5, .int (kf S 5)), (6, .int (kf S 7)), (7, .int (kf S 8)), (8, .int (kf S 9)), (9, .int (nI (kn S))), (10, .int (kf S 0)), (11, .int (kf S 1)), (12, .long (J (Int.gcd (LN (iS (kdr S zd)) (iP (kdr S zd)) * aI S) (LD (iS (kdr S zd)) (iP (kdr S zd)) * bI S) : Int))), (14, .int (ks S 0))] [.int (sgX S)] := by
        refine k_istore 219 221 C [(15, _), (0, _), (1, _), (3, _), (4, _), (5, _), (6, _), (7, _), (8, _), (9, _), (10, _), (11, _), (12, _), (14, _)] dL_copies_219 rfl (by decide) rfl ?_
        refine k_iload 221 223 C dL_copies_221 rfl 13 rfl ?_
        refine k_iconst 223 224 C dL_copies_223 rfl (v := 1) rfl ?_
        refine k_icmp_ne 224 231 227 C dL_copies_224 (by decide) rfl (fun h224 => ?_) (fun h224 => ?_)
        · refine k_iconst 231 232 C dL_copies_231 rfl (v := 1) rfl ?_
          refine k_perm [1, 2, 3, 4, 5, 6, 7, 8, 9, 10, 11, 12, 0] (L' := [(0, _), (1, _), (3, _), (4, _), (5, _), (6, _), (7, _), (8, _), (9, _), (10, _), (11, _), (12, _), (15, _)]) rfl ?_
          refine k_rwI (y := sgY S) (by unfold sgY; first | exact (if_pos h224).symm | exact (if_neg h224).symm) ?_
          exact join232
        · refine k_iconst 227 228 C dL_copies_227 rfl (v := (-1)) rfl ?_
          refine k_goto 228 232 C dL_copies_228 (by decide) ?_
          refine k_perm [1, 2, 3, 4, 5, 6, 7, 8, 9, 10, 11, 12, 0] (L' := [(0, _), (1, _), (3, _), (4, _), (5, _), (6, _), (7, _), (8, _), (9, _), (10, _), (11, _), (12, _), (15, _)]) rfl ?_
          refine k_rwI (y := sgY S) (by unfold sgY; first | exact (if_pos h224).symm | exact (if_neg h224).symm) ?_
          exact join232
      refine k_aload_n 161 162 C dL_copies_161 rfl 8 rfl ?_
      refine k_iconst 162 163 C dL_copies_162 rfl (v := 1) rfl ?_
      refine k_callVI 163 166 C [_] [] dL_copies_163 rfl (ct_X3_count hA g54 t54) mi_X3_count ml_L_9 im_X3_count se_X3_count ci_X3 (IsArm.o ‹_›) rfl rfl ⟨Nat.le_of_ble_eq_true rfl, Nat.le_of_ble_eq_true rfl⟩ (Nat.le_of_ble_eq_true rfl) (Nat.zero_le _) (Nat.zero_le _) (fun r163 V163 p163 => ?_)
      obtain ⟨rfl, rfl⟩ := And.intro p163.1.symm p163.2
      refine k_rwI (cCnt_1.trans (zkf 0 (by decide) (by decide) (by decide) (by decide))) ?_
      refine k_istore 166 168 C [(10, _), (9, _), (8, _), (7, _), (6, _), (5, _), (4, _), (3, _), (2, _), (0, _), (1, _)] dL_copies_166 rfl (by decide) rfl ?_
      refine k_aload_n 168 169 C dL_copies_168 rfl 9 rfl ?_
      refine k_iconst 169 170 C dL_copies_169 rfl (v := 2) rfl ?_
      refine k_callVI 170 173 C [_] [] dL_copies_170 rfl (ct_X3_count hA g54 t54) mi_X3_count ml_L_9 im_X3_count se_X3_count ci_X3 (IsArm.o ‹_›) rfl rfl ⟨Nat.le_of_ble_eq_true rfl, Nat.le_of_ble_eq_true rfl⟩ (Nat.le_of_ble_eq_true rfl) (Nat.zero_le _) (Nat.zero_le _) (fun r170 V170 p170 => ?_)
      obtain ⟨rfl, rfl⟩ := And.intro p170.1.symm p170.2
      refine k_rwI (cCnt_2.trans (zkf 1 (by decide) (by decide) (by decide) (by decide))) ?_
      refine k_istore 173 175 C [(11, _), (10, _), (9, _), (8, _), (7, _), (6, _), (5, _), (4, _), (3, _), (2, _), (0, _), (1, _)] dL_copies_173 rfl (by decide) rfl ?_
      refine k_aload_n 175 176 C dL_copies_175 rfl 10 rfl ?_
      refine k_iload_n 176 177 C dL_copies_176 rfl 11 rfl ?_
      refine k_iconst 177 178 C dL_copies_177 rfl (v := 0) rfl ?_
      refine k_callVI 178 181 C [_, _] [] dL_copies_178 rfl (ct_X3_ratio hA g54) mi_X3_ratio ml_L_42 im_X3_ratio se_X3_ratio ci_X3 (IsArm.o ‹_›) rfl rfl ⟨Nat.le_of_ble_eq_true rfl, Nat.le_of_ble_eq_true rfl⟩ (Nat.le_of_ble_eq_true rfl) (Nat.zero_le _) (Nat.zero_le _) (fun r178 V178 p178 => ?_)
      obtain ⟨rfl, rfl⟩ := And.intro p178.1.symm p178.2
      refine k_rwI (rj_0 zr1 hzd1 kdD) ?_
      refine k_i2l 181 182 C dL_copies_181 rfl  ?_
      refine k_rwL zj1.1 ?_
      refine k_iload 182 184 C dL_copies_182 rfl 1 rfl ?_
      refine k_i2l 184 185 C dL_copies_184 rfl  ?_
      refine k_rwL (i32_J _) ?_
      refine k_lmul 185 186 C dL_copies_185 rfl  ?_
      refine k_rwL (J_mul _ _) ?_
      refine k_aload_n 186 187 C dL_copies_186 rfl 10 rfl ?_
      refine k_iload_n 187 188 C dL_copies_187 rfl 11 rfl ?_
      refine k_iconst 188 189 C dL_copies_188 rfl (v := 1) rfl ?_
      refine k_callVI 189 192 C [_, _] [_] dL_copies_189 rfl (ct_X3_ratio hA g54) mi_X3_ratio ml_L_42 im_X3_ratio se_X3_ratio ci_X3 (IsArm.o ‹_›) rfl rfl ⟨Nat.le_of_ble_eq_true rfl, Nat.le_of_ble_eq_true rfl⟩ (Nat.le_of_ble_eq_true rfl) (Nat.zero_le _) (Nat.zero_le _) (fun r189 V189 p189 => ?_)
      obtain ⟨rfl, rfl⟩ := And.intro p189.1.symm p189.2
      refine k_rwI (rj_1 zr1 hzd1 kdD) ?_
      refine k_i2l 192 193 C dL_copies_192 rfl  ?_
      refine k_rwL zj1.2 ?_
      refine k_iload 193 195 C dL_copies_193 rfl 0 rfl ?_
      refine k_i2l 195 196 C dL_copies_195 rfl  ?_
      refine k_rwL (i32_J _) ?_
      refine k_lmul 196 197 C dL_copies_196 rfl  ?_
      refine k_rwL (J_mul _ _) ?_
      refine k_callSL 197 200 C [_, _] [] dL_copies_197 rfl (ct_L_common zb1 zb2 zb3) mi_L_common ml_L_25 st_L_common rfl rfl ⟨Nat.le_of_ble_eq_true rfl, Nat.le_of_ble_eq_true rfl⟩ (Nat.le_of_ble_eq_true rfl) (Nat.zero_le _) (Nat.zero_le _) (fun r197 V197 p197 => ?_)
      obtain ⟨rfl, rfl⟩ := And.intro p197.1.symm p197.2
      refine k_lstore 200 202 C [(12, _), (11, _), (10, _), (9, _), (8, _), (7, _), (6, _), (5, _), (4, _), (3, _), (2, _), (0, _), (1, _)] dL_copies_200 rfl (by decide) rfl ?_
      refine k_aload_n 202 203 C dL_copies_202 rfl 11 rfl ?_
      refine k_iconst 203 204 C dL_copies_203 rfl (v := 5) rfl ?_
      refine k_callVI 204 207 C [_] [] dL_copies_204 rfl (ct_X3_count hA g54 t54) mi_X3_count ml_L_9 im_X3_count se_X3_count ci_X3 (IsArm.o ‹_›) rfl rfl ⟨Nat.le_of_ble_eq_true rfl, Nat.le_of_ble_eq_true rfl⟩ (Nat.le_of_ble_eq_true rfl) (Nat.zero_le _) (Nat.zero_le _) (fun r204 V204 p204 => ?_)
      obtain ⟨rfl, rfl⟩ := And.intro p204.1.symm p204.2
      refine k_rwI (cCnt_5.trans (congrFun zks 0)) ?_
      refine k_istore 207 209 C [(14, _), (12, _), (11, _), (10, _), (9, _), (8, _), (7, _), (6, _), (5, _), (4, _), (3, _), (2, _), (0, _), (1, _)] dL_copies_207 rfl (by decide) rfl ?_
      refine k_iload 209 211 C dL_copies_209 rfl 0 rfl ?_
      refine k_if_ne 211 218 214 C dL_copies_211 (by decide) rfl (fun h211 => ?_) (fun h211 => ?_)
      · refine k_iconst 218 219 C dL_copies_218 rfl (v := (-1)) rfl ?_
        refine k_perm [12, 13, 10, 9, 8, 7, 6, 5, 4, 3, 2, 1, 0] (L' := [(0, _), (1, _), (3, _), (4, _), (5, _), (6, _), (7, _), (8, _), (9, _), (10, _), (11, _), (12, _), (14, _)]) rfl ?_
        refine k_rwI (y := sgX S) (by unfold sgX; first | exact (if_pos h211).symm | exact (if_neg h211).symm) ?_
        exact join219
      · refine k_iconst 214 215 C dL_copies_214 rfl (v := 1) rfl ?_
        refine k_goto 215 219 C dL_copies_215 (by decide) ?_
        refine k_perm [12, 13, 10, 9, 8, 7, 6, 5, 4, 3, 2, 1, 0] (L' := [(0, _), (1, _), (3, _), (4, _), (5, _), (6, _), (7, _), (8, _), (9, _), (10, _), (11, _), (12, _), (14, _)]) rfl ?_
        refine k_rwI (y := sgX S) (by unfold sgX; first | exact (if_pos h211).symm | exact (if_neg h211).symm) ?_
        exact join219
    · exact absurd hw0 h60
  · obtain ⟨rfl, r054, ρ54, g54, t54⟩ := sq_no t2 p54 (show cCpy S (nI zd) = (-2000000002, none) by unfold cCpy; rw [nI_clamp (show zd < 2 ^ 31 by omega), if_neg (fun zz => zz (jin zn6 hzd)), if_pos hw0])
    refine k_istore 57 59 C [(9, _), (8, _), (7, _), (6, _), (5, _), (4, _), (3, _), (2, _), (0, _), (1, _)] dL_copies_57 rfl (by decide) rfl ?_
    refine k_iload_n 59 60 C dL_copies_59 rfl 7 rfl ?_
    refine k_if_eq 60 161 63 C dL_copies_60 (by decide) rfl (fun h60 => ?_) (fun h60 => ?_)
    · exact absurd h60 hw0
    · rcases rsn_cases h60 with ⟨zw, zn0⟩ | ⟨zw, zn0, zbl⟩ | ⟨zw, zn0, zbl, zk6⟩ | ⟨zw, zn0, zbl⟩
      · rw [zw]
        refine k_iload 63 65 C dL_copies_63 rfl 0 rfl ?_
        refine k_ldc 65 67 C dL_copies_65 rfl kc_L_52 ?_
        refine k_icmp_ne 67 159 70 C dL_copies_67 (by decide) rfl (fun h67 => ?_) (fun h67 => ?_)
        · exact absurd rfl h67
        · refine k_iload_n 70 71 C dL_copies_70 rfl 7 rfl ?_
          refine k_if_le 71 159 74 C dL_copies_71 (by decide) rfl (fun h71 => ?_) (fun h71 => ?_)
          · exact absurd h71 (by decide)
          · refine k_iload_n 74 75 C dL_copies_74 rfl 7 rfl ?_
            refine k_iconst 75 76 C dL_copies_75 rfl (v := 5) rfl ?_
            refine k_icmp_ge 76 159 79 C dL_copies_76 (by decide) rfl (fun h76 => ?_) (fun h76 => ?_)
            · exact absurd h76 (by decide)
            · refine k_iload_n 79 80 C dL_copies_79 rfl 7 rfl ?_
              refine k_iconst 80 81 C dL_copies_80 rfl (v := 1) rfl ?_
              refine k_icmp_ne 81 88 84 C dL_copies_81 (by decide) rfl (fun h81 => ?_) (fun h81 => ?_)
              · exact absurd h81 (by decide)
              · refine k_iconst 84 85 C dL_copies_84 rfl (v := 1) rfl ?_
                refine k_goto 85 89 C dL_copies_85 (by decide) ?_
                refine k_iload 89 91 C dL_copies_89 rfl 5 rfl ?_
                refine k_if_ne 91 98 94 C dL_copies_91 (by decide) rfl (fun h91 => ?_) (fun h91 => ?_)
                · exact absurd (by rw [zn0]; rfl) h91
                · refine k_iconst 94 95 C dL_copies_94 rfl (v := 1) rfl ?_
                  refine k_goto 95 99 C dL_copies_95 (by decide) ?_
                  refine k_icmp_ne 99 159 102 C dL_copies_99 (by decide) rfl (fun h99 => ?_) (fun h99 => ?_)
                  · exact absurd h99 (by decide)
                  · refine k_iload 102 104 C dL_copies_102 rfl 5 rfl ?_
                    refine k_if_eq 104 135 107 C dL_copies_104 (by decide) rfl (fun h104 => ?_) (fun h104 => ?_)
                    · refine k_iload_n 135 136 C dL_copies_135 rfl 7 rfl ?_
                      refine k_iconst 136 137 C dL_copies_136 rfl (v := 3) rfl ?_
                      refine k_icmp_ne 137 146 140 C dL_copies_137 (by decide) rfl (fun h137 => ?_) (fun h137 => ?_)
                      · refine k_aload_n 146 147 C dL_copies_146 rfl 8 rfl ?_
                        refine k_iconst 147 148 C dL_copies_147 rfl (v := 0) rfl ?_
                        refine k_callVI 148 151 C [_] [] dL_copies_148 rfl (ct_X3_count hA g54 t54) mi_X3_count ml_L_9 im_X3_count se_X3_count ci_X3 (IsArm.o ‹_›) rfl rfl ⟨Nat.le_of_ble_eq_true rfl, Nat.le_of_ble_eq_true rfl⟩ (Nat.le_of_ble_eq_true rfl) (Nat.zero_le _) (Nat.zero_le _) (fun r148 V148 p148 => ?_)
                        obtain ⟨rfl, rfl⟩ := And.intro p148.1.symm p148.2
                        refine k_rwI (y := nI (kn (S))) cCnt_0 ?_
                        refine k_iload_n 151 152 C dL_copies_151 rfl 6 rfl ?_
                        refine k_icmp_ne 152 159 155 C dL_copies_152 (by decide) rfl (fun h152 => ?_) (fun h152 => ?_)
                        · exact absurd rfl h152
                        · refine k_iconst 155 156 C dL_copies_155 rfl (v := 1) rfl ?_
                          refine k_goto 156 160 C dL_copies_156 (by decide) ?_
                          refine k_zret 160 C dL_copies_160 rfl (by first | exact Or.inl rfl | exact Or.inr rfl | exact bi_01) ?_
                          exact ⟨rfl, Or.inl ⟨⟨_, _, g54⟩, _, t54⟩⟩
                      · exact absurd h137 (by decide)
                    · exact absurd (by rw [zn0]; rfl) h104
      · rw [zw]
        refine k_iload 63 65 C dL_copies_63 rfl 0 rfl ?_
        refine k_ldc 65 67 C dL_copies_65 rfl kc_L_52 ?_
        refine k_icmp_ne 67 159 70 C dL_copies_67 (by decide) rfl (fun h67 => ?_) (fun h67 => ?_)
        · exact absurd rfl h67
        · refine k_iload_n 70 71 C dL_copies_70 rfl 7 rfl ?_
          refine k_if_le 71 159 74 C dL_copies_71 (by decide) rfl (fun h71 => ?_) (fun h71 => ?_)
          · exact absurd h71 (by decide)
          · refine k_iload_n 74 75 C dL_copies_74 rfl 7 rfl ?_
            refine k_iconst 75 76 C dL_copies_75 rfl (v := 5) rfl ?_
            refine k_icmp_ge 76 159 79 C dL_copies_76 (by decide) rfl (fun h76 => ?_) (fun h76 => ?_)
            · exact absurd h76 (by decide)
            · refine k_iload_n 79 80 C dL_copies_79 rfl 7 rfl ?_
              refine k_iconst 80 81 C dL_copies_80 rfl (v := 1) rfl ?_
              refine k_icmp_ne 81 88 84 C dL_copies_81 (by decide) rfl (fun h81 => ?_) (fun h81 => ?_)
              · refine k_iconst 88 89 C dL_copies_88 rfl (v := 0) rfl ?_
                refine k_iload 89 91 C dL_copies_89 rfl 5 rfl ?_
                refine k_if_ne 91 98 94 C dL_copies_91 (by decide) rfl (fun h91 => ?_) (fun h91 => ?_)
                · refine k_iconst 98 99 C dL_copies_98 rfl (v := 0) rfl ?_
                  refine k_icmp_ne 99 159 102 C dL_copies_99 (by decide) rfl (fun h99 => ?_) (fun h99 => ?_)
                  · exact absurd h99 (by decide)
                  · refine k_iload 102 104 C dL_copies_102 rfl 5 rfl ?_
                    refine k_if_eq 104 135 107 C dL_copies_104 (by decide) rfl (fun h104 => ?_) (fun h104 => ?_)
                    · exact absurd ((nI_eq (a := rn (kdr S zd)) (b := 0) (by omega) (by decide)).mp h104) zn0
                    · refine k_iload_n 107 108 C dL_copies_107 rfl 7 rfl ?_
                      refine k_iconst 108 109 C dL_copies_108 rfl (v := 2) rfl ?_
                      refine k_icmp_ne 109 116 112 C dL_copies_109 (by decide) rfl (fun h109 => ?_) (fun h109 => ?_)
                      · exact absurd h109 (by decide)
                      · refine k_iconst 112 113 C dL_copies_112 rfl (v := 1) rfl ?_
                        refine k_goto 113 117 C dL_copies_113 (by decide) ?_
                        refine k_aload_n 117 118 C dL_copies_117 rfl 8 rfl ?_
                        refine k_bipush 118 120 C dL_copies_118 rfl (v := 11) rfl ?_
                        refine k_callVI 120 123 C [_] [_] dL_copies_120 rfl (ct_X3_count hA g54 t54) mi_X3_count ml_L_9 im_X3_count se_X3_count ci_X3 (IsArm.o ‹_›) rfl rfl ⟨Nat.le_of_ble_eq_true rfl, Nat.le_of_ble_eq_true rfl⟩ (Nat.le_of_ble_eq_true rfl) (Nat.zero_le _) (Nat.zero_le _) (fun r120 V120 p120 => ?_)
                        obtain ⟨rfl, rfl⟩ := And.intro p120.1.symm p120.2
                        refine k_rwI (y := 1) (cCnt_11.trans (if_pos zbl)) ?_
                        refine k_iconst 123 124 C dL_copies_123 rfl (v := 1) rfl ?_
                        refine k_icmp_ne 124 131 127 C dL_copies_124 (by decide) rfl (fun h124 => ?_) (fun h124 => ?_)
                        · exact absurd h124 (by decide)
                        · refine k_iconst 127 128 C dL_copies_127 rfl (v := 1) rfl ?_
                          refine k_goto 128 132 C dL_copies_128 (by decide) ?_
                          refine k_icmp_ne 132 159 135 C dL_copies_132 (by decide) rfl (fun h132 => ?_) (fun h132 => ?_)
                          · exact absurd h132 (by decide)
                          · refine k_iload_n 135 136 C dL_copies_135 rfl 7 rfl ?_
                            refine k_iconst 136 137 C dL_copies_136 rfl (v := 3) rfl ?_
                            refine k_icmp_ne 137 146 140 C dL_copies_137 (by decide) rfl (fun h137 => ?_) (fun h137 => ?_)
                            · refine k_aload_n 146 147 C dL_copies_146 rfl 8 rfl ?_
                              refine k_iconst 147 148 C dL_copies_147 rfl (v := 0) rfl ?_
                              refine k_callVI 148 151 C [_] [] dL_copies_148 rfl (ct_X3_count hA g54 t54) mi_X3_count ml_L_9 im_X3_count se_X3_count ci_X3 (IsArm.o ‹_›) rfl rfl ⟨Nat.le_of_ble_eq_true rfl, Nat.le_of_ble_eq_true rfl⟩ (Nat.le_of_ble_eq_true rfl) (Nat.zero_le _) (Nat.zero_le _) (fun r148 V148 p148 => ?_)
                              obtain ⟨rfl, rfl⟩ := And.intro p148.1.symm p148.2
                              refine k_rwI (y := nI (kn (S))) cCnt_0 ?_
                              refine k_iload_n 151 152 C dL_copies_151 rfl 6 rfl ?_
                              refine k_icmp_ne 152 159 155 C dL_copies_152 (by decide) rfl (fun h152 => ?_) (fun h152 => ?_)
                              · exact absurd rfl h152
                              · refine k_iconst 155 156 C dL_copies_155 rfl (v := 1) rfl ?_
                                refine k_goto 156 160 C dL_copies_156 (by decide) ?_
                                refine k_zret 160 C dL_copies_160 rfl (by first | exact Or.inl rfl | exact Or.inr rfl | exact bi_01) ?_
                                exact ⟨rfl, Or.inl ⟨⟨_, _, g54⟩, _, t54⟩⟩
                            · exact absurd h137 (by decide)
                · exact absurd ((nI_eq (a := rn (kdr S zd)) (b := 0) (by omega) (by decide)).mp h91) zn0
              · exact absurd h81 (by decide)
      · rw [zw]
        refine k_iload 63 65 C dL_copies_63 rfl 0 rfl ?_
        refine k_ldc 65 67 C dL_copies_65 rfl kc_L_52 ?_
        refine k_icmp_ne 67 159 70 C dL_copies_67 (by decide) rfl (fun h67 => ?_) (fun h67 => ?_)
        · exact absurd rfl h67
        · refine k_iload_n 70 71 C dL_copies_70 rfl 7 rfl ?_
          refine k_if_le 71 159 74 C dL_copies_71 (by decide) rfl (fun h71 => ?_) (fun h71 => ?_)
          · exact absurd h71 (by decide)
          · refine k_iload_n 74 75 C dL_copies_74 rfl 7 rfl ?_
            refine k_iconst 75 76 C dL_copies_75 rfl (v := 5) rfl ?_
            refine k_icmp_ge 76 159 79 C dL_copies_76 (by decide) rfl (fun h76 => ?_) (fun h76 => ?_)
            · exact absurd h76 (by decide)
            · refine k_iload_n 79 80 C dL_copies_79 rfl 7 rfl ?_
              refine k_iconst 80 81 C dL_copies_80 rfl (v := 1) rfl ?_
              refine k_icmp_ne 81 88 84 C dL_copies_81 (by decide) rfl (fun h81 => ?_) (fun h81 => ?_)
              · refine k_iconst 88 89 C dL_copies_88 rfl (v := 0) rfl ?_
                refine k_iload 89 91 C dL_copies_89 rfl 5 rfl ?_
                refine k_if_ne 91 98 94 C dL_copies_91 (by decide) rfl (fun h91 => ?_) (fun h91 => ?_)
                · refine k_iconst 98 99 C dL_copies_98 rfl (v := 0) rfl ?_
                  refine k_icmp_ne 99 159 102 C dL_copies_99 (by decide) rfl (fun h99 => ?_) (fun h99 => ?_)
                  · exact absurd h99 (by decide)
                  · refine k_iload 102 104 C dL_copies_102 rfl 5 rfl ?_
                    refine k_if_eq 104 135 107 C dL_copies_104 (by decide) rfl (fun h104 => ?_) (fun h104 => ?_)
                    · exact absurd ((nI_eq (a := rn (kdr S zd)) (b := 0) (by omega) (by decide)).mp h104) zn0
                    · refine k_iload_n 107 108 C dL_copies_107 rfl 7 rfl ?_
                      refine k_iconst 108 109 C dL_copies_108 rfl (v := 2) rfl ?_
                      refine k_icmp_ne 109 116 112 C dL_copies_109 (by decide) rfl (fun h109 => ?_) (fun h109 => ?_)
                      · refine k_iconst 116 117 C dL_copies_116 rfl (v := 0) rfl ?_
                        refine k_aload_n 117 118 C dL_copies_117 rfl 8 rfl ?_
                        refine k_bipush 118 120 C dL_copies_118 rfl (v := 11) rfl ?_
                        refine k_callVI 120 123 C [_] [_] dL_copies_120 rfl (ct_X3_count hA g54 t54) mi_X3_count ml_L_9 im_X3_count se_X3_count ci_X3 (IsArm.o ‹_›) rfl rfl ⟨Nat.le_of_ble_eq_true rfl, Nat.le_of_ble_eq_true rfl⟩ (Nat.le_of_ble_eq_true rfl) (Nat.zero_le _) (Nat.zero_le _) (fun r120 V120 p120 => ?_)
                        obtain ⟨rfl, rfl⟩ := And.intro p120.1.symm p120.2
                        refine k_rwI (y := 0) (cCnt_11.trans (if_neg (fun zz => zz zbl))) ?_
                        refine k_iconst 123 124 C dL_copies_123 rfl (v := 1) rfl ?_
                        refine k_icmp_ne 124 131 127 C dL_copies_124 (by decide) rfl (fun h124 => ?_) (fun h124 => ?_)
                        · refine k_iconst 131 132 C dL_copies_131 rfl (v := 0) rfl ?_
                          refine k_icmp_ne 132 159 135 C dL_copies_132 (by decide) rfl (fun h132 => ?_) (fun h132 => ?_)
                          · exact absurd h132 (by decide)
                          · refine k_iload_n 135 136 C dL_copies_135 rfl 7 rfl ?_
                            refine k_iconst 136 137 C dL_copies_136 rfl (v := 3) rfl ?_
                            refine k_icmp_ne 137 146 140 C dL_copies_137 (by decide) rfl (fun h137 => ?_) (fun h137 => ?_)
                            · exact absurd h137 (by decide)
                            · refine k_iload_n 140 141 C dL_copies_140 rfl 6 rfl ?_
                              refine k_bipush 141 143 C dL_copies_141 rfl (v := 6) rfl ?_
                              refine k_icmp_ne 143 159 146 C dL_copies_143 (by decide) rfl (fun h143 => ?_) (fun h143 => ?_)
                              · exact absurd (show nI (kn S) = nI 6 from congrArg nI (by omega)) h143
                              · refine k_aload_n 146 147 C dL_copies_146 rfl 8 rfl ?_
                                refine k_iconst 147 148 C dL_copies_147 rfl (v := 0) rfl ?_
                                refine k_callVI 148 151 C [_] [] dL_copies_148 rfl (ct_X3_count hA g54 t54) mi_X3_count ml_L_9 im_X3_count se_X3_count ci_X3 (IsArm.o ‹_›) rfl rfl ⟨Nat.le_of_ble_eq_true rfl, Nat.le_of_ble_eq_true rfl⟩ (Nat.le_of_ble_eq_true rfl) (Nat.zero_le _) (Nat.zero_le _) (fun r148 V148 p148 => ?_)
                                obtain ⟨rfl, rfl⟩ := And.intro p148.1.symm p148.2
                                refine k_rwI (y := nI (kn (S))) cCnt_0 ?_
                                refine k_iload_n 151 152 C dL_copies_151 rfl 6 rfl ?_
                                refine k_icmp_ne 152 159 155 C dL_copies_152 (by decide) rfl (fun h152 => ?_) (fun h152 => ?_)
                                · exact absurd rfl h152
                                · refine k_iconst 155 156 C dL_copies_155 rfl (v := 1) rfl ?_
                                  refine k_goto 156 160 C dL_copies_156 (by decide) ?_
                                  refine k_zret 160 C dL_copies_160 rfl (by first | exact Or.inl rfl | exact Or.inr rfl | exact bi_01) ?_
                                  exact ⟨rfl, Or.inl ⟨⟨_, _, g54⟩, _, t54⟩⟩
                        · exact absurd h124 (by decide)
                      · exact absurd h109 (by decide)
                · exact absurd ((nI_eq (a := rn (kdr S zd)) (b := 0) (by omega) (by decide)).mp h91) zn0
              · exact absurd h81 (by decide)
      · rw [zw]
        refine k_iload 63 65 C dL_copies_63 rfl 0 rfl ?_
        refine k_ldc 65 67 C dL_copies_65 rfl kc_L_52 ?_
        refine k_icmp_ne 67 159 70 C dL_copies_67 (by decide) rfl (fun h67 => ?_) (fun h67 => ?_)
        · exact absurd rfl h67
        · refine k_iload_n 70 71 C dL_copies_70 rfl 7 rfl ?_
          refine k_if_le 71 159 74 C dL_copies_71 (by decide) rfl (fun h71 => ?_) (fun h71 => ?_)
          · exact absurd h71 (by decide)
          · refine k_iload_n 74 75 C dL_copies_74 rfl 7 rfl ?_
            refine k_iconst 75 76 C dL_copies_75 rfl (v := 5) rfl ?_
            refine k_icmp_ge 76 159 79 C dL_copies_76 (by decide) rfl (fun h76 => ?_) (fun h76 => ?_)
            · exact absurd h76 (by decide)
            · refine k_iload_n 79 80 C dL_copies_79 rfl 7 rfl ?_
              refine k_iconst 80 81 C dL_copies_80 rfl (v := 1) rfl ?_
              refine k_icmp_ne 81 88 84 C dL_copies_81 (by decide) rfl (fun h81 => ?_) (fun h81 => ?_)
              · refine k_iconst 88 89 C dL_copies_88 rfl (v := 0) rfl ?_
                refine k_iload 89 91 C dL_copies_89 rfl 5 rfl ?_
                refine k_if_ne 91 98 94 C dL_copies_91 (by decide) rfl (fun h91 => ?_) (fun h91 => ?_)
                · refine k_iconst 98 99 C dL_copies_98 rfl (v := 0) rfl ?_
                  refine k_icmp_ne 99 159 102 C dL_copies_99 (by decide) rfl (fun h99 => ?_) (fun h99 => ?_)
                  · exact absurd h99 (by decide)
                  · refine k_iload 102 104 C dL_copies_102 rfl 5 rfl ?_
                    refine k_if_eq 104 135 107 C dL_copies_104 (by decide) rfl (fun h104 => ?_) (fun h104 => ?_)
                    · exact absurd ((nI_eq (a := rn (kdr S zd)) (b := 0) (by omega) (by decide)).mp h104) zn0
                    · refine k_iload_n 107 108 C dL_copies_107 rfl 7 rfl ?_
                      refine k_iconst 108 109 C dL_copies_108 rfl (v := 2) rfl ?_
                      refine k_icmp_ne 109 116 112 C dL_copies_109 (by decide) rfl (fun h109 => ?_) (fun h109 => ?_)
                      · refine k_iconst 116 117 C dL_copies_116 rfl (v := 0) rfl ?_
                        refine k_aload_n 117 118 C dL_copies_117 rfl 8 rfl ?_
                        refine k_bipush 118 120 C dL_copies_118 rfl (v := 11) rfl ?_
                        refine k_callVI 120 123 C [_] [_] dL_copies_120 rfl (ct_X3_count hA g54 t54) mi_X3_count ml_L_9 im_X3_count se_X3_count ci_X3 (IsArm.o ‹_›) rfl rfl ⟨Nat.le_of_ble_eq_true rfl, Nat.le_of_ble_eq_true rfl⟩ (Nat.le_of_ble_eq_true rfl) (Nat.zero_le _) (Nat.zero_le _) (fun r120 V120 p120 => ?_)
                        obtain ⟨rfl, rfl⟩ := And.intro p120.1.symm p120.2
                        refine k_rwI (y := 0) (cCnt_11.trans (if_neg (fun zz => zz zbl))) ?_
                        refine k_iconst 123 124 C dL_copies_123 rfl (v := 1) rfl ?_
                        refine k_icmp_ne 124 131 127 C dL_copies_124 (by decide) rfl (fun h124 => ?_) (fun h124 => ?_)
                        · refine k_iconst 131 132 C dL_copies_131 rfl (v := 0) rfl ?_
                          refine k_icmp_ne 132 159 135 C dL_copies_132 (by decide) rfl (fun h132 => ?_) (fun h132 => ?_)
                          · exact absurd h132 (by decide)
                          · refine k_iload_n 135 136 C dL_copies_135 rfl 7 rfl ?_
                            refine k_iconst 136 137 C dL_copies_136 rfl (v := 3) rfl ?_
                            refine k_icmp_ne 137 146 140 C dL_copies_137 (by decide) rfl (fun h137 => ?_) (fun h137 => ?_)
                            · refine k_aload_n 146 147 C dL_copies_146 rfl 8 rfl ?_
                              refine k_iconst 147 148 C dL_copies_147 rfl (v := 0) rfl ?_
                              refine k_callVI 148 151 C [_] [] dL_copies_148 rfl (ct_X3_count hA g54 t54) mi_X3_count ml_L_9 im_X3_count se_X3_count ci_X3 (IsArm.o ‹_›) rfl rfl ⟨Nat.le_of_ble_eq_true rfl, Nat.le_of_ble_eq_true rfl⟩ (Nat.le_of_ble_eq_true rfl) (Nat.zero_le _) (Nat.zero_le _) (fun r148 V148 p148 => ?_)
                              obtain ⟨rfl, rfl⟩ := And.intro p148.1.symm p148.2
                              refine k_rwI (y := nI (kn (S))) cCnt_0 ?_
                              refine k_iload_n 151 152 C dL_copies_151 rfl 6 rfl ?_
                              refine k_icmp_ne 152 159 155 C dL_copies_152 (by decide) rfl (fun h152 => ?_) (fun h152 => ?_)
                              · exact absurd rfl h152
                              · refine k_iconst 155 156 C dL_copies_155 rfl (v := 1) rfl ?_
                                refine k_goto 156 160 C dL_copies_156 (by decide) ?_
                                refine k_zret 160 C dL_copies_160 rfl (by first | exact Or.inl rfl | exact Or.inr rfl | exact bi_01) ?_
                                exact ⟨rfl, Or.inl ⟨⟨_, _, g54⟩, _, t54⟩⟩
                            · exact absurd h137 (by decide)
                        · exact absurd h124 (by decide)
                      · exact absurd h109 (by decide)
                · exact absurd ((nI_eq (a := rn (kdr S zd)) (b := 0) (by omega) (by decide)).mp h91) zn0
              · exact absurd h81 (by decide)
