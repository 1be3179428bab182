set_option maxHeartbeats 4000000 in
set_option maxRecDepth 100000 in
theorem ct_L_sound {E : gE} {T : gT} {l : Launch} {V : gV} {a : Nat} {S : Dk} {h : Nat} {H : Nat → Dk} {r0 : Nat} {ρ : Nat → Nat} (hA : IsAll T a) (g : AVp V a S h H r0 ρ) {cs : Nat → Int32} (ht : TC V (a + 29) cs 0) {f : Nat → Int64} (zr : Rel f S) {kk : Nat} (zg : GI S kk) (hkk : kk ≤ 100) : CtI E T l yL_sound (gw yL_sound cL_sound 21 (some .boolean)) { frames := 5, cells := 0, slots := 0, locals := 114 } [.ref a] V (fun (r : Int32) (V' : gV) => V' = V ∧ r = 1) := by
  refine ctI_of (L := [(0, .ref a)]) (by decide) rfl (Nat.le_of_ble_eq_true rfl) rfl (fun p e s m args below meth c C => ?_)
  have ha := hA.a
  have zn6 := zr.n6
  obtain ⟨ze1, ze2⟩ := worn_eq zr
  obtain ⟨⟨v1, v2⟩, v3, v4⟩ := st_all zg hkk
  have loop8 : ∀ (f8 : Nat) (zd : Nat), kn S - zd = f8 → (zd ≤ kn S) → KW E T V p l e { frames := 5, cells := 0, slots := 0, locals := 114 } s m args below meth c 21 0 0 (MQ below (va_Qi (fun (r : Int32) (V' : gV) => V' = V ∧ r = 1) (RepS E T) (gA E)) args s 0 0 (gA E)) 8 [(2, .int (nI zd)), (0, .ref a), (1, .int (nI (kn S)))] [] := by
    intro f8
    induction f8 using Nat.strongRecOn with
    | _ f8 ih8 =>
    intro zd hf8 hdl
    refine k_iload_n 8 9 C dL_sound_8 rfl 0 rfl ?_
    refine k_iload_n 9 10 C dL_sound_9 rfl 2 rfl ?_
    refine k_icmp_ge 10 681 13 C dL_sound_10 (by decide) rfl (fun h10 => ?_) (fun h10 => ?_)
    · obtain rfl : zd = kn S := by have z := (nI_leI (a := kn S) (b := zd) (by omega) (by omega)).mp h10; omega
      refine k_iconst 681 682 C dL_sound_681 rfl (v := 1) rfl ?_
      refine k_aload_n 682 683 C dL_sound_682 rfl 1 rfl ?_
      refine k_bipush 683 685 C dL_sound_683 rfl (v := 10) rfl ?_
      refine k_callVI 685 688 C [_] [_] dL_sound_685 rfl (ct_X3_count hA g ht) mi_X3_count ml_L_9 im_X3_count se_X3_count ci_X3 (IsArm.o ‹_›) rfl rfl ⟨Nat.le_of_ble_eq_true rfl, Nat.le_of_ble_eq_true rfl⟩ (Nat.le_of_ble_eq_true rfl) (Nat.zero_le _) (Nat.zero_le _) (fun r685 V685 p685 => ?_)
      obtain ⟨rfl, rfl⟩ := And.intro p685.1.symm p685.2
      refine k_rwI cCnt_10 ?_
      refine k_aload_n 688 689 C dL_sound_688 rfl 1 rfl ?_
      refine k_bipush 689 691 C dL_sound_689 rfl (v := 9) rfl ?_
      refine k_callVI 691 694 C [_] [_, _] dL_sound_691 rfl (ct_X3_count hA g ht) mi_X3_count ml_L_9 im_X3_count se_X3_count ci_X3 (IsArm.o ‹_›) rfl rfl ⟨Nat.le_of_ble_eq_true rfl, Nat.le_of_ble_eq_true rfl⟩ (Nat.le_of_ble_eq_true rfl) (Nat.zero_le _) (Nat.zero_le _) (fun r691 V691 p691 => ?_)
      obtain ⟨rfl, rfl⟩ := And.intro p691.1.symm p691.2
      refine k_rwI cCnt_9 ?_
      refine k_idiv 694 695 C dL_sound_694 rfl ze2 ?_
      refine k_iadd 695 696 C dL_sound_695 rfl  ?_
      refine k_bipush 696 698 C dL_sound_696 rfl (v := 9) rfl ?_
      refine k_icmp_le 698 705 701 C dL_sound_698 (by decide) rfl (fun h698 => ?_) (fun h698 => ?_)
      · refine k_iconst 705 706 C dL_sound_705 rfl (v := 0) rfl ?_
        refine k_istore_n 706 707 C [(2, _), (0, _), (1, _)] dL_sound_706 rfl (by decide) rfl ?_
        refine k_aload_n 707 708 C dL_sound_707 rfl 1 rfl ?_
        refine k_bipush 708 710 C dL_sound_708 rfl (v := 11) rfl ?_
        refine k_callVI 710 713 C [_] [] dL_sound_710 rfl (ct_X3_count hA g ht) mi_X3_count ml_L_9 im_X3_count se_X3_count ci_X3 (IsArm.o ‹_›) rfl rfl ⟨Nat.le_of_ble_eq_true rfl, Nat.le_of_ble_eq_true rfl⟩ (Nat.le_of_ble_eq_true rfl) (Nat.zero_le _) (Nat.zero_le _) (fun r710 V710 p710 => ?_)
        obtain ⟨rfl, rfl⟩ := And.intro p710.1.symm p710.2
        refine k_rwI (y := 0) (cCnt_11.trans (by rw [ze1]; first | exact if_pos h698 | exact if_neg (fun zz => zz h698))) ?_
        refine k_iload_n 713 714 C dL_sound_713 rfl 0 rfl ?_
        refine k_if_eq 714 721 717 C dL_sound_714 (by decide) rfl (fun h714 => ?_) (fun h714 => ?_)
        · refine k_iconst 721 722 C dL_sound_721 rfl (v := 0) rfl ?_
          refine k_icmp_ne 722 767 725 C dL_sound_722 (by decide) rfl (fun h722 => ?_) (fun h722 => ?_)
          · exact absurd h722 (by decide)
          · refine k_aload_n 725 726 C dL_sound_725 rfl 1 rfl ?_
            refine k_bipush 726 728 C dL_sound_726 rfl (v := 12) rfl ?_
            refine k_callVI 728 731 C [_] [] dL_sound_728 rfl (ct_X3_count hA g ht) mi_X3_count ml_L_9 im_X3_count se_X3_count ci_X3 (IsArm.o ‹_›) rfl rfl ⟨Nat.le_of_ble_eq_true rfl, Nat.le_of_ble_eq_true rfl⟩ (Nat.le_of_ble_eq_true rfl) (Nat.zero_le _) (Nat.zero_le _) (fun r728 V728 p728 => ?_)
            obtain ⟨rfl, rfl⟩ := And.intro p728.1.symm p728.2
            refine k_rwI cCnt_12 ?_
            refine k_if_lt 731 767 734 C dL_sound_731 (by decide) rfl (fun h731 => ?_) (fun h731 => ?_)
            · exact absurd h731 v1
            · refine k_aload_n 734 735 C dL_sound_734 rfl 1 rfl ?_
              refine k_bipush 735 737 C dL_sound_735 rfl (v := 12) rfl ?_
              refine k_callVI 737 740 C [_] [] dL_sound_737 rfl (ct_X3_count hA g ht) mi_X3_count ml_L_9 im_X3_count se_X3_count ci_X3 (IsArm.o ‹_›) rfl rfl ⟨Nat.le_of_ble_eq_true rfl, Nat.le_of_ble_eq_true rfl⟩ (Nat.le_of_ble_eq_true rfl) (Nat.zero_le _) (Nat.zero_le _) (fun r737 V737 p737 => ?_)
              obtain ⟨rfl, rfl⟩ := And.intro p737.1.symm p737.2
              refine k_rwI cCnt_12 ?_
              refine k_bipush 740 742 C dL_sound_740 rfl (v := 10) rfl ?_
              refine k_icmp_gt 742 767 745 C dL_sound_742 (by decide) rfl (fun h742 => ?_) (fun h742 => ?_)
              · exact absurd h742 v2
              · refine k_aload_n 745 746 C dL_sound_745 rfl 1 rfl ?_
                refine k_bipush 746 748 C dL_sound_746 rfl (v := 14) rfl ?_
                refine k_callVI 748 751 C [_] [] dL_sound_748 rfl (ct_X3_count hA g ht) mi_X3_count ml_L_9 im_X3_count se_X3_count ci_X3 (IsArm.o ‹_›) rfl rfl ⟨Nat.le_of_ble_eq_true rfl, Nat.le_of_ble_eq_true rfl⟩ (Nat.le_of_ble_eq_true rfl) (Nat.zero_le _) (Nat.zero_le _) (fun r748 V748 p748 => ?_)
                obtain ⟨rfl, rfl⟩ := And.intro p748.1.symm p748.2
                refine k_rwI cCnt_14 ?_
                refine k_if_lt 751 767 754 C dL_sound_751 (by decide) rfl (fun h751 => ?_) (fun h751 => ?_)
                · exact absurd h751 v3
                · refine k_aload_n 754 755 C dL_sound_754 rfl 1 rfl ?_
                  refine k_bipush 755 757 C dL_sound_755 rfl (v := 15) rfl ?_
                  refine k_callVI 757 760 C [_] [] dL_sound_757 rfl (ct_X3_count hA g ht) mi_X3_count ml_L_9 im_X3_count se_X3_count ci_X3 (IsArm.o ‹_›) rfl rfl ⟨Nat.le_of_ble_eq_true rfl, Nat.le_of_ble_eq_true rfl⟩ (Nat.le_of_ble_eq_true rfl) (Nat.zero_le _) (Nat.zero_le _) (fun r757 V757 p757 => ?_)
                  obtain ⟨rfl, rfl⟩ := And.intro p757.1.symm p757.2
                  refine k_rwI cCnt_15 ?_
                  refine k_if_lt 760 767 763 C dL_sound_760 (by decide) rfl (fun h760 => ?_) (fun h760 => ?_)
                  · exact absurd h760 v4
                  · refine k_iconst 763 764 C dL_sound_763 rfl (v := 1) rfl ?_
                    refine k_goto 764 768 C dL_sound_764 (by decide) ?_
                    refine k_zret 768 C dL_sound_768 rfl (by first | exact Or.inl rfl | exact Or.inr rfl | exact bi_01) ?_
                    exact ⟨rfl, rfl⟩
        · exact absurd h714 (by decide)
      · refine k_iconst 701 702 C dL_sound_701 rfl (v := 1) rfl ?_
        refine k_goto 702 706 C dL_sound_702 (by decide) ?_
        refine k_istore_n 706 707 C [(2, _), (0, _), (1, _)] dL_sound_706 rfl (by decide) rfl ?_
        refine k_aload_n 707 708 C dL_sound_707 rfl 1 rfl ?_
        refine k_bipush 708 710 C dL_sound_708 rfl (v := 11) rfl ?_
        refine k_callVI 710 713 C [_] [] dL_sound_710 rfl (ct_X3_count hA g ht) mi_X3_count ml_L_9 im_X3_count se_X3_count ci_X3 (IsArm.o ‹_›) rfl rfl ⟨Nat.le_of_ble_eq_true rfl, Nat.le_of_ble_eq_true rfl⟩ (Nat.le_of_ble_eq_true rfl) (Nat.zero_le _) (Nat.zero_le _) (fun r710 V710 p710 => ?_)
        obtain ⟨rfl, rfl⟩ := And.intro p710.1.symm p710.2
        refine k_rwI (y := 1) (cCnt_11.trans (by rw [ze1]; first | exact if_pos h698 | exact if_neg (fun zz => zz h698))) ?_
        refine k_iload_n 713 714 C dL_sound_713 rfl 0 rfl ?_
        refine k_if_eq 714 721 717 C dL_sound_714 (by decide) rfl (fun h714 => ?_) (fun h714 => ?_)
        · exact absurd h714 (by decide)
        · refine k_iconst 717 718 C dL_sound_717 rfl (v := 1) rfl ?_
          refine k_goto 718 722 C dL_sound_718 (by decide) ?_
          refine k_icmp_ne 722 767 725 C dL_sound_722 (by decide) rfl (fun h722 => ?_) (fun h722 => ?_)
          · exact absurd h722 (by decide)
          · refine k_aload_n 725 726 C dL_sound_725 rfl 1 rfl ?_
            refine k_bipush 726 728 C dL_sound_726 rfl (v := 12) rfl ?_
            refine k_callVI 728 731 C [_] [] dL_sound_728 rfl (ct_X3_count hA g ht) mi_X3_count ml_L_9 im_X3_count se_X3_count ci_X3 (IsArm.o ‹_›) rfl rfl ⟨Nat.le_of_ble_eq_true rfl, Nat.le_of_ble_eq_true rfl⟩ (Nat.le_of_ble_eq_true rfl) (Nat.zero_le _) (Nat.zero_le _) (fun r728 V728 p728 => ?_)
            obtain ⟨rfl, rfl⟩ := And.intro p728.1.symm p728.2
            refine k_rwI cCnt_12 ?_
            refine k_if_lt 731 767 734 C dL_sound_731 (by decide) rfl (fun h731 => ?_) (fun h731 => ?_)
            · exact absurd h731 v1
            · refine k_aload_n 734 735 C dL_sound_734 rfl 1 rfl ?_
              refine k_bipush 735 737 C dL_sound_735 rfl (v := 12) rfl ?_
              refine k_callVI 737 740 C [_] [] dL_sound_737 rfl (ct_X3_count hA g ht) mi_X3_count ml_L_9 im_X3_count se_X3_count ci_X3 (IsArm.o ‹_›) rfl rfl ⟨Nat.le_of_ble_eq_true rfl, Nat.le_of_ble_eq_true rfl⟩ (Nat.le_of_ble_eq_true rfl) (Nat.zero_le _) (Nat.zero_le _) (fun r737 V737 p737 => ?_)
              obtain ⟨rfl, rfl⟩ := And.intro p737.1.symm p737.2
              refine k_rwI cCnt_12 ?_
              refine k_bipush 740 742 C dL_sound_740 rfl (v := 10) rfl ?_
              refine k_icmp_gt 742 767 745 C dL_sound_742 (by decide) rfl (fun h742 => ?_) (fun h742 => ?_)
              · exact absurd h742 v2
              · refine k_aload_n 745 746 C dL_sound_745 rfl 1 rfl ?_
                refine k_bipush 746 748 C dL_sound_746 rfl (v := 14) rfl ?_
                refine k_callVI 748 751 C [_] [] dL_sound_748 rfl (ct_X3_count hA g ht) mi_X3_count ml_L_9 im_X3_count se_X3_count ci_X3 (IsArm.o ‹_›) rfl rfl ⟨Nat.le_of_ble_eq_true rfl, Nat.le_of_ble_eq_true rfl⟩ (Nat.le_of_ble_eq_true rfl) (Nat.zero_le _) (Nat.zero_le _) (fun r748 V748 p748 => ?_)
                obtain ⟨rfl, rfl⟩ := And.intro p748.1.symm p748.2
                refine k_rwI cCnt_14 ?_
                refine k_if_lt 751 767 754 C dL_sound_751 (by decide) rfl (fun h751 => ?_) (fun h751 => ?_)
                · exact absurd h751 v3
                · refine k_aload_n 754 755 C dL_sound_754 rfl 1 rfl ?_
                  refine k_bipush 755 757 C dL_sound_755 rfl (v := 15) rfl ?_
                  refine k_callVI 757 760 C [_] [] dL_sound_757 rfl (ct_X3_count hA g ht) mi_X3_count ml_L_9 im_X3_count se_X3_count ci_X3 (IsArm.o ‹_›) rfl rfl ⟨Nat.le_of_ble_eq_true rfl, Nat.le_of_ble_eq_true rfl⟩ (Nat.le_of_ble_eq_true rfl) (Nat.zero_le _) (Nat.zero_le _) (fun r757 V757 p757 => ?_)
                  obtain ⟨rfl, rfl⟩ := And.intro p757.1.symm p757.2
                  refine k_rwI cCnt_15 ?_
                  refine k_if_lt 760 767 763 C dL_sound_760 (by decide) rfl (fun h760 => ?_) (fun h760 => ?_)
                  · exact absurd h760 v4
                  · refine k_iconst 763 764 C dL_sound_763 rfl (v := 1) rfl ?_
                    refine k_goto 764 768 C dL_sound_764 (by decide) ?_
                    refine k_zret 768 C dL_sound_768 rfl (by first | exact Or.inl rfl | exact Or.inr rfl | exact bi_01) ?_
                    exact ⟨rfl, rfl⟩
    · have hzd : zd < kn S := Nat.lt_of_not_le (fun zz => h10 ((nI_leI (a := kn S) (b := zd) (by omega) (by omega)).mpr zz))
      obtain ⟨zoi, ztf⟩ := zg.2.1 zd hzd
      refine k_aload_n 13 14 C dL_sound_13 rfl 1 rfl ?_
      refine k_iload_n 14 15 C dL_sound_14 rfl 0 rfl ?_
      refine k_iconst 15 16 C dL_sound_15 rfl (v := 1) rfl ?_
      refine k_callVI 16 19 C [_, _] [] dL_sound_16 rfl (ct_X3_drawing hA g (dr_nice zr)) mi_X3_drawing ml_L_15 im_X3_drawing se_X3_drawing ci_X3 (IsArm.o ‹_›) rfl rfl ⟨Nat.le_of_ble_eq_true rfl, Nat.le_of_ble_eq_true rfl⟩ (Nat.le_of_ble_eq_true rfl) (Nat.zero_le _) (Nat.zero_le _) (fun r16 V16 p16 => ?_)
      obtain ⟨rfl, rfl⟩ := And.intro p16.1.symm p16.2
      refine k_rwI (dg_1 zr hzd) ?_
      refine k_istore_n 19 20 C [(3, _), (2, _), (0, _), (1, _)] dL_sound_19 rfl (by decide) rfl ?_
      refine k_aload_n 20 21 C dL_sound_20 rfl 2 rfl ?_
      refine k_iload_n 21 22 C dL_sound_21 rfl 1 rfl ?_
      refine k_iconst 22 23 C dL_sound_22 rfl (v := 0) rfl ?_
      refine k_callVI 23 26 C [_, _] [] dL_sound_23 rfl (ct_X3_drawing hA g (dr_nice zr)) mi_X3_drawing ml_L_15 im_X3_drawing se_X3_drawing ci_X3 (IsArm.o ‹_›) rfl rfl ⟨Nat.le_of_ble_eq_true rfl, Nat.le_of_ble_eq_true rfl⟩ (Nat.le_of_ble_eq_true rfl) (Nat.zero_le _) (Nat.zero_le _) (fun r23 V23 p23 => ?_)
      obtain ⟨rfl, rfl⟩ := And.intro p23.1.symm p23.2
      refine k_rwI (dg_0 zr hzd) ?_
      refine k_istore 26 28 C [(4, _), (3, _), (2, _), (0, _), (1, _)] dL_sound_26 rfl (by decide) rfl ?_
      have loop43 : ∀ (f43 : Nat) (zp : Nat), rn (kdr S zd) - zp = f43 → (zp ≤ rn (kdr S zd)) → KW E T V p l e { frames := 5, cells := 0, slots := 0, locals := 114 } s m args below meth c 21 0 0 (MQ below (va_Qi (fun (r : Int32) (V' : gV) => V' = V ∧ r = 1) (RepS E T) (gA E)) args s 0 0 (gA E)) 43 [(9, .int (nI zp)), (8, .int (nI (offB S (kdr S zd) (zp)))), (7, .int (maxW (kdr S zd) (zp))), (6, .int (sumW (kdr S zd) (zp))), (5, .int (nI (cntW (kdr S zd) (zp)))), (3, .int (frm S zd)), (4, .int (nI (rn (kdr S zd)))), (0, .ref a), (1, .int (nI (kn S))), (2, .int (nI zd))] [] := by
        intro f43
        induction f43 using Nat.strongRecOn with
        | _ f43 ih43 =>
        intro zp hf43 hpl
        have z20 := zr.n20 zd hzd
        have join318 : (zp < rn (kdr S zd)) → KW E T V p l e { frames := 5, cells := 0, slots := 0, locals := 114 } s m args below meth c 21 0 0 (MQ below (va_Qi (fun (r : Int32) (V' : gV) => V' = V ∧ r = 1) (RepS E T) (gA E)) args s 0 0 (gA E)) 318 [(8, .int (nI (offB S (kdr S zd) (zp + 1)))), (7, .int (maxW (kdr S zd) (zp + 1))), (6, .int (sumW (kdr S zd) (zp + 1))), (5, .int (nI (cntW (kdr S zd) (zp + 1)))), (18, .long (lN (wN (kdr S zd) zp))), (16, .long (J (LD (iY (kdr S zd) zp) (iP (kdr S zd))))), (14, .long (J (LN (iY (kdr S zd) zp) (iP (kdr S zd))))), (12, .long (J (LD (iX (kdr S zd) zp) (iP (kdr S zd))))), (10, .long (J (LN (iX (kdr S zd) zp) (iP (kdr S zd))))), (9, .int (nI zp)), (3, .int (frm S zd)), (4, .int (nI (rn (kdr S zd)))), (0, .ref a), (1, .int (nI (kn S))), (2, .int (nI zd))] [] := by
          intro  hzp
          obtain ⟨⟨⟨f223, f230⟩, f239, f248⟩, ⟨⟨c1, c2, c3⟩, c4, c5, c6⟩, fo, ⟨f322, f331⟩, fj, fl, f0z⟩ := sp_all zr zoi ztf hzd hzp
          obtain ⟨w0, w1, w2, w3, w4⟩ := w_cases zr hzd hzp
          have won := on_w zr ztf hzd hzp
          have zb1 := (zr.b zd hzd).1.1
          refine k_lload 318 320 C dL_sound_318 rfl 4 rfl ?_
          refine k_lconst 320 321 C dL_sound_320 rfl (v := 0) rfl ?_
          refine k_lcmp_lt 321 322 393 325 C dL_sound_321 rfl dL_sound_322 (by decide) rfl (fun h322 => ?_) (fun h322 => ?_)
          · exact absurd h322 f322
          · refine k_lload 325 327 C dL_sound_325 rfl 4 rfl ?_
            refine k_ldc2 327 330 C dL_sound_327 rfl kl_L_34 ?_
            refine k_lcmp_gt 330 331 393 334 C dL_sound_330 rfl dL_sound_331 (by decide) rfl (fun h331 => ?_) (fun h331 => ?_)
            · exact absurd h331 f331
            · refine k_lload 334 336 C dL_sound_334 rfl 4 rfl ?_
              refine k_lconst 336 337 C dL_sound_336 rfl (v := 0) rfl ?_
              refine k_lcmp_le 337 338 354 341 C dL_sound_337 rfl dL_sound_338 (by decide) rfl (fun h338 => ?_) (fun h338 => ?_)
              · refine k_lload 354 356 C dL_sound_354 rfl 4 rfl ?_
                refine k_lconst 356 357 C dL_sound_356 rfl (v := 0) rfl ?_
                refine k_lcmp_ne 357 358 375 361 C dL_sound_357 rfl dL_sound_358 (by decide) rfl (fun h358 => ?_) (fun h358 => ?_)
                · refine k_iload 375 377 C dL_sound_375 rfl 9 rfl ?_
                  refine k_if_ne 377 395 380 C dL_sound_377 (by decide) rfl (fun h377 => ?_) (fun h377 => ?_)
                  · refine k_iinc 395 398 C [(9, _), (8, _), (7, _), (6, _), (5, _), (18, _), (16, _), (14, _), (12, _), (10, _), (3, _), (4, _), (0, _), (1, _), (2, _)] (nI (zp + 1)) dL_sound_395 rfl 9 rfl (nI_1 (zp)) (by decide) rfl ?_
                    refine k_goto 398 43 C dL_sound_398 (by decide) ?_
                    refine k_perm [0, 1, 2, 3, 4, 10, 11, 12, 13, 14] (L' := [(9, _), (8, _), (7, _), (6, _), (5, _), (3, _), (4, _), (0, _), (1, _), (2, _)]) rfl ?_
                    exact ih43 (rn (kdr S zd) - (zp + 1)) (by omega) (zp + 1) rfl (by omega)
                  · have z0p : zp = 0 := (nI_eq (a := zp) (b := 0) (by omega) (by decide)).mp h377
                    refine k_aload_n 380 381 C dL_sound_380 rfl 12 rfl ?_
                    refine k_iload_n 381 382 C dL_sound_381 rfl 14 rfl ?_
                    refine k_iload 382 384 C dL_sound_382 rfl 9 rfl ?_
                    refine k_iconst 384 385 C dL_sound_384 rfl (v := 4) rfl ?_
                    refine k_callVL 385 388 C [_, _, _] [] dL_sound_385 rfl (ct_X3_pointInfo hA g) mi_X3_pointInfo ml_L_19 im_X3_pointInfo se_X3_pointInfo ci_X3 (IsArm.o ‹_›) rfl rfl ⟨Nat.le_of_ble_eq_true rfl, Nat.le_of_ble_eq_true rfl⟩ (Nat.le_of_ble_eq_true rfl) (Nat.zero_le _) (Nat.zero_le _) (fun r385 V385 p385 => ?_)
                    obtain ⟨rfl, rfl⟩ := And.intro p385.1.symm p385.2
                    refine k_rwL (pi_4 zr hzd hzp) ?_
                    refine k_lconst 388 389 C dL_sound_388 rfl (v := 0) rfl ?_
                    refine k_lcmp_eq 389 390 395 393 C dL_sound_389 rfl dL_sound_390 (by decide) rfl (fun h390 => ?_) (fun h390 => ?_)
                    · refine k_iinc 395 398 C [(9, _), (8, _), (7, _), (6, _), (5, _), (18, _), (16, _), (14, _), (12, _), (10, _), (3, _), (4, _), (0, _), (1, _), (2, _)] (nI (zp + 1)) dL_sound_395 rfl 9 rfl (nI_1 (zp)) (by decide) rfl ?_
                      refine k_goto 398 43 C dL_sound_398 (by decide) ?_
                      refine k_perm [0, 1, 2, 3, 4, 10, 11, 12, 13, 14] (L' := [(9, _), (8, _), (7, _), (6, _), (5, _), (3, _), (4, _), (0, _), (1, _), (2, _)]) rfl ?_
                      exact ih43 (rn (kdr S zd) - (zp + 1)) (by omega) (zp + 1) rfl (by omega)
                    · exact absurd (f0z z0p) h390
                · refine k_aload_n 361 362 C dL_sound_361 rfl 12 rfl ?_
                  refine k_iload_n 362 363 C dL_sound_362 rfl 14 rfl ?_
                  refine k_iload 363 365 C dL_sound_363 rfl 9 rfl ?_
                  refine k_bipush 365 367 C dL_sound_365 rfl (v := 6) rfl ?_
                  refine k_callVL 367 370 C [_, _, _] [] dL_sound_367 rfl (ct_X3_pointInfo hA g) mi_X3_pointInfo ml_L_19 im_X3_pointInfo se_X3_pointInfo ci_X3 (IsArm.o ‹_›) rfl rfl ⟨Nat.le_of_ble_eq_true rfl, Nat.le_of_ble_eq_true rfl⟩ (Nat.le_of_ble_eq_true rfl) (Nat.zero_le _) (Nat.zero_le _) (fun r367 V367 p367 => ?_)
                  obtain ⟨rfl, rfl⟩ := And.intro p367.1.symm p367.2
                  refine k_rwL (pi_6 zr hzd hzp) ?_
                  refine k_lconst 370 371 C dL_sound_370 rfl (v := 0) rfl ?_
                  refine k_lcmp_ne 371 372 393 375 C dL_sound_371 rfl dL_sound_372 (by decide) rfl (fun h372 => ?_) (fun h372 => ?_)
                  · exact absurd (fl h358) h372
                  · refine k_iload 375 377 C dL_sound_375 rfl 9 rfl ?_
                    refine k_if_ne 377 395 380 C dL_sound_377 (by decide) rfl (fun h377 => ?_) (fun h377 => ?_)
                    · refine k_iinc 395 398 C [(9, _), (8, _), (7, _), (6, _), (5, _), (18, _), (16, _), (14, _), (12, _), (10, _), (3, _), (4, _), (0, _), (1, _), (2, _)] (nI (zp + 1)) dL_sound_395 rfl 9 rfl (nI_1 (zp)) (by decide) rfl ?_
                      refine k_goto 398 43 C dL_sound_398 (by decide) ?_
                      refine k_perm [0, 1, 2, 3, 4, 10, 11, 12, 13, 14] (L' := [(9, _), (8, _), (7, _), (6, _), (5, _), (3, _), (4, _), (0, _), (1, _), (2, _)]) rfl ?_
                      exact ih43 (rn (kdr S zd) - (zp + 1)) (by omega) (zp + 1) rfl (by omega)
                    · have z0p : zp = 0 := (nI_eq (a := zp) (b := 0) (by omega) (by decide)).mp h377
                      refine k_aload_n 380 381 C dL_sound_380 rfl 12 rfl ?_
                      refine k_iload_n 381 382 C dL_sound_381 rfl 14 rfl ?_
                      refine k_iload 382 384 C dL_sound_382 rfl 9 rfl ?_
                      refine k_iconst 384 385 C dL_sound_384 rfl (v := 4) rfl ?_
                      refine k_callVL 385 388 C [_, _, _] [] dL_sound_385 rfl (ct_X3_pointInfo hA g) mi_X3_pointInfo ml_L_19 im_X3_pointInfo se_X3_pointInfo ci_X3 (IsArm.o ‹_›) rfl rfl ⟨Nat.le_of_ble_eq_true rfl, Nat.le_of_ble_eq_true rfl⟩ (Nat.le_of_ble_eq_true rfl) (Nat.zero_le _) (Nat.zero_le _) (fun r385 V385 p385 => ?_)
                      obtain ⟨rfl, rfl⟩ := And.intro p385.1.symm p385.2
                      refine k_rwL (pi_4 zr hzd hzp) ?_
                      refine k_lconst 388 389 C dL_sound_388 rfl (v := 0) rfl ?_
                      refine k_lcmp_eq 389 390 395 393 C dL_sound_389 rfl dL_sound_390 (by decide) rfl (fun h390 => ?_) (fun h390 => ?_)
                      · refine k_iinc 395 398 C [(9, _), (8, _), (7, _), (6, _), (5, _), (18, _), (16, _), (14, _), (12, _), (10, _), (3, _), (4, _), (0, _), (1, _), (2, _)] (nI (zp + 1)) dL_sound_395 rfl 9 rfl (nI_1 (zp)) (by decide) rfl ?_
                        refine k_goto 398 43 C dL_sound_398 (by decide) ?_
                        refine k_perm [0, 1, 2, 3, 4, 10, 11, 12, 13, 14] (L' := [(9, _), (8, _), (7, _), (6, _), (5, _), (3, _), (4, _), (0, _), (1, _), (2, _)]) rfl ?_
                        exact ih43 (rn (kdr S zd) - (zp + 1)) (by omega) (zp + 1) rfl (by omega)
                      · exact absurd (f0z z0p) h390
              · refine k_aload_n 341 342 C dL_sound_341 rfl 12 rfl ?_
                refine k_iload_n 342 343 C dL_sound_342 rfl 14 rfl ?_
                refine k_iload 343 345 C dL_sound_343 rfl 9 rfl ?_
                refine k_iconst 345 346 C dL_sound_345 rfl (v := 4) rfl ?_
                refine k_callVL 346 349 C [_, _, _] [] dL_sound_346 rfl (ct_X3_pointInfo hA g) mi_X3_pointInfo ml_L_19 im_X3_pointInfo se_X3_pointInfo ci_X3 (IsArm.o ‹_›) rfl rfl ⟨Nat.le_of_ble_eq_true rfl, Nat.le_of_ble_eq_true rfl⟩ (Nat.le_of_ble_eq_true rfl) (Nat.zero_le _) (Nat.zero_le _) (fun r346 V346 p346 => ?_)
                obtain ⟨rfl, rfl⟩ := And.intro p346.1.symm p346.2
                refine k_rwL (pi_4 zr hzd hzp) ?_
                refine k_lconst 349 350 C dL_sound_349 rfl (v := 0) rfl ?_
                refine k_lcmp_eq 350 351 393 354 C dL_sound_350 rfl dL_sound_351 (by decide) rfl (fun h351 => ?_) (fun h351 => ?_)
                · exact absurd h351 (fj h338)
                · refine k_lload 354 356 C dL_sound_354 rfl 4 rfl ?_
                  refine k_lconst 356 357 C dL_sound_356 rfl (v := 0) rfl ?_
                  refine k_lcmp_ne 357 358 375 361 C dL_sound_357 rfl dL_sound_358 (by decide) rfl (fun h358 => ?_) (fun h358 => ?_)
                  · refine k_iload 375 377 C dL_sound_375 rfl 9 rfl ?_
                    refine k_if_ne 377 395 380 C dL_sound_377 (by decide) rfl (fun h377 => ?_) (fun h377 => ?_)
                    · refine k_iinc 395 398 C [(9, _), (8, _), (7, _), (6, _), (5, _), (18, _), (16, _), (14, _), (12, _), (10, _), (3, _), (4, _), (0, _), (1, _), (2, _)] (nI (zp + 1)) dL_sound_395 rfl 9 rfl (nI_1 (zp)) (by decide) rfl ?_
                      refine k_goto 398 43 C dL_sound_398 (by decide) ?_
                      refine k_perm [0, 1, 2, 3, 4, 10, 11, 12, 13, 14] (L' := [(9, _), (8, _), (7, _), (6, _), (5, _), (3, _), (4, _), (0, _), (1, _), (2, _)]) rfl ?_
                      exact ih43 (rn (kdr S zd) - (zp + 1)) (by omega) (zp + 1) rfl (by omega)
                    · have z0p : zp = 0 := (nI_eq (a := zp) (b := 0) (by omega) (by decide)).mp h377
                      refine k_aload_n 380 381 C dL_sound_380 rfl 12 rfl ?_
                      refine k_iload_n 381 382 C dL_sound_381 rfl 14 rfl ?_
                      refine k_iload 382 384 C dL_sound_382 rfl 9 rfl ?_
                      refine k_iconst 384 385 C dL_sound_384 rfl (v := 4) rfl ?_
                      refine k_callVL 385 388 C [_, _, _] [] dL_sound_385 rfl (ct_X3_pointInfo hA g) mi_X3_pointInfo ml_L_19 im_X3_pointInfo se_X3_pointInfo ci_X3 (IsArm.o ‹_›) rfl rfl ⟨Nat.le_of_ble_eq_true rfl, Nat.le_of_ble_eq_true rfl⟩ (Nat.le_of_ble_eq_true rfl) (Nat.zero_le _) (Nat.zero_le _) (fun r385 V385 p385 => ?_)
                      obtain ⟨rfl, rfl⟩ := And.intro p385.1.symm p385.2
                      refine k_rwL (pi_4 zr hzd hzp) ?_
                      refine k_lconst 388 389 C dL_sound_388 rfl (v := 0) rfl ?_
                      refine k_lcmp_eq 389 390 395 393 C dL_sound_389 rfl dL_sound_390 (by decide) rfl (fun h390 => ?_) (fun h390 => ?_)
                      · refine k_iinc 395 398 C [(9, _), (8, _), (7, _), (6, _), (5, _), (18, _), (16, _), (14, _), (12, _), (10, _), (3, _), (4, _), (0, _), (1, _), (2, _)] (nI (zp + 1)) dL_sound_395 rfl 9 rfl (nI_1 (zp)) (by decide) rfl ?_
                        refine k_goto 398 43 C dL_sound_398 (by decide) ?_
                        refine k_perm [0, 1, 2, 3, 4, 10, 11, 12, 13, 14] (L' := [(9, _), (8, _), (7, _), (6, _), (5, _), (3, _), (4, _), (0, _), (1, _), (2, _)]) rfl ?_
                        exact ih43 (rn (kdr S zd) - (zp + 1)) (by omega) (zp + 1) rfl (by omega)
                      · exact absurd (f0z z0p) h390
                  · refine k_aload_n 361 362 C dL_sound_361 rfl 12 rfl ?_
                    refine k_iload_n 362 363 C dL_sound_362 rfl 14 rfl ?_
                    refine k_iload 363 365 C dL_sound_363 rfl 9 rfl ?_
                    refine k_bipush 365 367 C dL_sound_365 rfl (v := 6) rfl ?_
                    refine k_callVL 367 370 C [_, _, _] [] dL_sound_367 rfl (ct_X3_pointInfo hA g) mi_X3_pointInfo ml_L_19 im_X3_pointInfo se_X3_pointInfo ci_X3 (IsArm.o ‹_›) rfl rfl ⟨Nat.le_of_ble_eq_true rfl, Nat.le_of_ble_eq_true rfl⟩ (Nat.le_of_ble_eq_true rfl) (Nat.zero_le _) (Nat.zero_le _) (fun r367 V367 p367 => ?_)
                    obtain ⟨rfl, rfl⟩ := And.intro p367.1.symm p367.2
                    refine k_rwL (pi_6 zr hzd hzp) ?_
                    refine k_lconst 370 371 C dL_sound_370 rfl (v := 0) rfl ?_
                    refine k_lcmp_ne 371 372 393 375 C dL_sound_371 rfl dL_sound_372 (by decide) rfl (fun h372 => ?_) (fun h372 => ?_)
                    · exact absurd (fl h358) h372
                    · refine k_iload 375 377 C dL_sound_375 rfl 9 rfl ?_
                      refine k_if_ne 377 395 380 C dL_sound_377 (by decide) rfl (fun h377 => ?_) (fun h377 => ?_)
                      · refine k_iinc 395 398 C [(9, _), (8, _), (7, _), (6, _), (5, _), (18, _), (16, _), (14, _), (12, _), (10, _), (3, _), (4, _), (0, _), (1, _), (2, _)] (nI (zp + 1)) dL_sound_395 rfl 9 rfl (nI_1 (zp)) (by decide) rfl ?_
                        refine k_goto 398 43 C dL_sound_398 (by decide) ?_
                        refine k_perm [0, 1, 2, 3, 4, 10, 11, 12, 13, 14] (L' := [(9, _), (8, _), (7, _), (6, _), (5, _), (3, _), (4, _), (0, _), (1, _), (2, _)]) rfl ?_
                        exact ih43 (rn (kdr S zd) - (zp + 1)) (by omega) (zp + 1) rfl (by omega)
                      · have z0p : zp = 0 := (nI_eq (a := zp) (b := 0) (by omega) (by decide)).mp h377
                        refine k_aload_n 380 381 C dL_sound_380 rfl 12 rfl ?_
                        refine k_iload_n 381 382 C dL_sound_381 rfl 14 rfl ?_
                        refine k_iload 382 384 C dL_sound_382 rfl 9 rfl ?_
                        refine k_iconst 384 385 C dL_sound_384 rfl (v := 4) rfl ?_
                        refine k_callVL 385 388 C [_, _, _] [] dL_sound_385 rfl (ct_X3_pointInfo hA g) mi_X3_pointInfo ml_L_19 im_X3_pointInfo se_X3_pointInfo ci_X3 (IsArm.o ‹_›) rfl rfl ⟨Nat.le_of_ble_eq_true rfl, Nat.le_of_ble_eq_true rfl⟩ (Nat.le_of_ble_eq_true rfl) (Nat.zero_le _) (Nat.zero_le _) (fun r385 V385 p385 => ?_)
                        obtain ⟨rfl, rfl⟩ := And.intro p385.1.symm p385.2
                        refine k_rwL (pi_4 zr hzd hzp) ?_
                        refine k_lconst 388 389 C dL_sound_388 rfl (v := 0) rfl ?_
                        refine k_lcmp_eq 389 390 395 393 C dL_sound_389 rfl dL_sound_390 (by decide) rfl (fun h390 => ?_) (fun h390 => ?_)
                        · refine k_iinc 395 398 C [(9, _), (8, _), (7, _), (6, _), (5, _), (18, _), (16, _), (14, _), (12, _), (10, _), (3, _), (4, _), (0, _), (1, _), (2, _)] (nI (zp + 1)) dL_sound_395 rfl 9 rfl (nI_1 (zp)) (by decide) rfl ?_
                          refine k_goto 398 43 C dL_sound_398 (by decide) ?_
                          refine k_perm [0, 1, 2, 3, 4, 10, 11, 12, 13, 14] (L' := [(9, _), (8, _), (7, _), (6, _), (5, _), (3, _), (4, _), (0, _), (1, _), (2, _)]) rfl ?_
                          exact ih43 (rn (kdr S zd) - (zp + 1)) (by omega) (zp + 1) rfl (by omega)
                        · exact absurd (f0z z0p) h390
        have join217 : (zp < rn (kdr S zd)) → KW E T V p l e { frames := 5, cells := 0, slots := 0, locals := 114 } s m args below meth c 21 0 0 (MQ below (va_Qi (fun (r : Int32) (V' : gV) => V' = V ∧ r = 1) (RepS E T) (gA E)) args s 0 0 (gA E)) 217 [(18, .long (lN (wN (kdr S zd) zp))), (16, .long (J (LD (iY (kdr S zd) zp) (iP (kdr S zd))))), (14, .long (J (LN (iY (kdr S zd) zp) (iP (kdr S zd))))), (12, .long (J (LD (iX (kdr S zd) zp) (iP (kdr S zd))))), (10, .long (J (LN (iX (kdr S zd) zp) (iP (kdr S zd))))), (7, .int (maxW (kdr S zd) (zp + 1))), (6, .int (sumW (kdr S zd) (zp + 1))), (5, .int (nI (cntW (kdr S zd) (zp + 1)))), (9, .int (nI zp)), (3, .int (frm S zd)), (4, .int (nI (rn (kdr S zd)))), (0, .ref a), (1, .int (nI (kn S))), (2, .int (nI zd))] [.int (nI (offB S (kdr S zd) (zp + 1)))] := by
          intro  hzp
          obtain ⟨⟨⟨f223, f230⟩, f239, f248⟩, ⟨⟨c1, c2, c3⟩, c4, c5, c6⟩, fo, ⟨f322, f331⟩, fj, fl, f0z⟩ := sp_all zr zoi ztf hzd hzp
          obtain ⟨w0, w1, w2, w3, w4⟩ := w_cases zr hzd hzp
          have won := on_w zr ztf hzd hzp
          have zb1 := (zr.b zd hzd).1.1
          refine k_istore 217 219 C [(8, _), (18, _), (16, _), (14, _), (12, _), (10, _), (7, _), (6, _), (5, _), (9, _), (3, _), (4, _), (0, _), (1, _), (2, _)] dL_sound_217 rfl (by decide) rfl ?_
          refine k_lload 219 221 C dL_sound_219 rfl 4 rfl ?_
          refine k_lconst 221 222 C dL_sound_221 rfl (v := 1) rfl ?_
          refine k_lcmp_lt 222 223 393 226 C dL_sound_222 rfl dL_sound_223 (by decide) rfl (fun h223 => ?_) (fun h223 => ?_)
          · exact absurd h223 f223
          · refine k_lload 226 228 C dL_sound_226 rfl 2 rfl ?_
            refine k_lconst 228 229 C dL_sound_228 rfl (v := 1) rfl ?_
            refine k_lcmp_lt 229 230 393 233 C dL_sound_229 rfl dL_sound_230 (by decide) rfl (fun h230 => ?_) (fun h230 => ?_)
            · exact absurd h230 f230
            · refine k_lload 233 235 C dL_sound_233 rfl 4 rfl ?_
              refine k_ldc2 235 238 C dL_sound_235 rfl kl_L_23 ?_
              refine k_lcmp_gt 238 239 393 242 C dL_sound_238 rfl dL_sound_239 (by decide) rfl (fun h239 => ?_) (fun h239 => ?_)
              · exact absurd h239 f239
              · refine k_lload 242 244 C dL_sound_242 rfl 2 rfl ?_
                refine k_ldc2 244 247 C dL_sound_244 rfl kl_L_23 ?_
                refine k_lcmp_gt 247 248 393 251 C dL_sound_247 rfl dL_sound_248 (by decide) rfl (fun h248 => ?_) (fun h248 => ?_)
                · exact absurd h248 f248
                · refine k_lload 251 253 C dL_sound_251 rfl 5 rfl ?_
                  refine k_lload 253 255 C dL_sound_253 rfl 4 rfl ?_
                  refine k_callSL 255 258 C [_, _] [] dL_sound_255 rfl (ct_L_common c1 c2 c3) mi_L_common ml_L_25 st_L_common rfl rfl ⟨Nat.le_of_ble_eq_true rfl, Nat.le_of_ble_eq_true rfl⟩ (Nat.le_of_ble_eq_true rfl) (Nat.zero_le _) (Nat.zero_le _) (fun r255 V255 p255 => ?_)
                  obtain ⟨rfl, rfl⟩ := And.intro p255.1.symm p255.2
                  refine k_rwL (y := 1) (by rw [gcd_L zb1]; rfl) ?_
                  refine k_lconst 258 259 C dL_sound_258 rfl (v := 1) rfl ?_
                  refine k_lcmp_ne 259 260 393 263 C dL_sound_259 rfl dL_sound_260 (by decide) rfl (fun h260 => ?_) (fun h260 => ?_)
                  · exact absurd rfl h260
                  · refine k_lload 263 265 C dL_sound_263 rfl 3 rfl ?_
                    refine k_lload 265 267 C dL_sound_265 rfl 2 rfl ?_
                    refine k_callSL 267 270 C [_, _] [] dL_sound_267 rfl (ct_L_common c4 c5 c6) mi_L_common ml_L_25 st_L_common rfl rfl ⟨Nat.le_of_ble_eq_true rfl, Nat.le_of_ble_eq_true rfl⟩ (Nat.le_of_ble_eq_true rfl) (Nat.zero_le _) (Nat.zero_le _) (fun r267 V267 p267 => ?_)
                    obtain ⟨rfl, rfl⟩ := And.intro p267.1.symm p267.2
                    refine k_rwL (y := 1) (by rw [gcd_L zb1]; rfl) ?_
                    refine k_lconst 270 271 C dL_sound_270 rfl (v := 1) rfl ?_
                    refine k_lcmp_ne 271 272 393 275 C dL_sound_271 rfl dL_sound_272 (by decide) rfl (fun h272 => ?_) (fun h272 => ?_)
                    · exact absurd rfl h272
                    · refine k_iload_n 275 276 C dL_sound_275 rfl 10 rfl ?_
                      refine k_ldc 276 278 C dL_sound_276 rfl kc_L_31 ?_
                      refine k_icmp_ne 278 318 281 C dL_sound_278 (by decide) rfl (fun h278 => ?_) (fun h278 => ?_)
                      · refine k_perm [0, 6, 7, 8, 1, 2, 3, 4, 5, 9, 10, 11, 12, 13, 14] (L' := [(8, _), (7, _), (6, _), (5, _), (18, _), (16, _), (14, _), (12, _), (10, _), (9, _), (3, _), (4, _), (0, _), (1, _), (2, _)]) rfl ?_
                        exact join318 hzp
                      · obtain ⟨o1, o2, o3, o4, o5⟩ := fo h278
                        refine k_lload 281 283 C dL_sound_281 rfl 4 rfl ?_
                        refine k_lconst 283 284 C dL_sound_283 rfl (v := 1) rfl ?_
                        refine k_lcmp_ne 284 285 393 288 C dL_sound_284 rfl dL_sound_285 (by decide) rfl (fun h285 => ?_) (fun h285 => ?_)
                        · exact absurd o1 h285
                        · refine k_lload 288 290 C dL_sound_288 rfl 2 rfl ?_
                          refine k_lconst 290 291 C dL_sound_290 rfl (v := 1) rfl ?_
                          refine k_lcmp_ne 291 292 393 295 C dL_sound_291 rfl dL_sound_292 (by decide) rfl (fun h292 => ?_) (fun h292 => ?_)
                          · exact absurd o2 h292
                          · refine k_lload 295 297 C dL_sound_295 rfl 1 rfl ?_
                            refine k_lconst 297 298 C dL_sound_297 rfl (v := 1) rfl ?_
                            refine k_lcmp_gt 298 299 393 302 C dL_sound_298 rfl dL_sound_299 (by decide) rfl (fun h299 => ?_) (fun h299 => ?_)
                            · exact absurd h299 o3
                            · refine k_lload 302 304 C dL_sound_302 rfl 5 rfl ?_
                              refine k_lconst 304 305 C dL_sound_304 rfl (v := 0) rfl ?_
                              refine k_lcmp_lt 305 306 393 309 C dL_sound_305 rfl dL_sound_306 (by decide) rfl (fun h306 => ?_) (fun h306 => ?_)
                              · exact absurd h306 o4
                              · refine k_lload 309 311 C dL_sound_309 rfl 5 rfl ?_
                                refine k_ldc2 311 314 C dL_sound_311 rfl kl_L_32 ?_
                                refine k_lcmp_gt 314 315 393 318 C dL_sound_314 rfl dL_sound_315 (by decide) rfl (fun h315 => ?_) (fun h315 => ?_)
                                · exact absurd h315 o5
                                · refine k_perm [0, 6, 7, 8, 1, 2, 3, 4, 5, 9, 10, 11, 12, 13, 14] (L' := [(8, _), (7, _), (6, _), (5, _), (18, _), (16, _), (14, _), (12, _), (10, _), (9, _), (3, _), (4, _), (0, _), (1, _), (2, _)]) rfl ?_
                                  exact join318 hzp
        have join202 : (zp < rn (kdr S zd)) → KW E T V p l e { frames := 5, cells := 0, slots := 0, locals := 114 } s m args below meth c 21 0 0 (MQ below (va_Qi (fun (r : Int32) (V' : gV) => V' = V ∧ r = 1) (RepS E T) (gA E)) args s 0 0 (gA E)) 202 [(20, .int (if onB S (kdr S zd) (nI zp) = true then 1 else 0)), (18, .long (lN (wN (kdr S zd) zp))), (16, .long (J (LD (iY (kdr S zd) zp) (iP (kdr S zd))))), (14, .long (J (LN (iY (kdr S zd) zp) (iP (kdr S zd))))), (12, .long (J (LD (iX (kdr S zd) zp) (iP (kdr S zd))))), (10, .long (J (LN (iX (kdr S zd) zp) (iP (kdr S zd))))), (8, .int (nI (offB S (kdr S zd) (zp)))), (7, .int (maxW (kdr S zd) (zp))), (6, .int (sumW (kdr S zd) (zp + 1))), (5, .int (nI (cntW (kdr S zd) (zp + 1)))), (9, .int (nI zp)), (3, .int (frm S zd)), (4, .int (nI (rn (kdr S zd)))), (0, .ref a), (1, .int (nI (kn S))), (2, .int (nI zd))] [.int (maxW (kdr S zd) (zp + 1))] := by
          intro  hzp
          obtain ⟨⟨⟨f223, f230⟩, f239, f248⟩, ⟨⟨c1, c2, c3⟩, c4, c5, c6⟩, fo, ⟨f322, f331⟩, fj, fl, f0z⟩ := sp_all zr zoi ztf hzd hzp
          obtain ⟨w0, w1, w2, w3, w4⟩ := w_cases zr hzd hzp
          have won := on_w zr ztf hzd hzp
          have zb1 := (zr.b zd hzd).1.1
          refine k_istore 202 204 C [(7, _), (20, _), (18, _), (16, _), (14, _), (12, _), (10, _), (8, _), (6, _), (5, _), (9, _), (3, _), (4, _), (0, _), (1, _), (2, _)] dL_sound_202 rfl (by decide) rfl ?_
          refine k_iload 204 206 C dL_sound_204 rfl 7 rfl ?_
          refine k_iload 206 208 C dL_sound_206 rfl 1 rfl ?_
          refine k_if_eq 208 215 211 C dL_sound_208 (by decide) rfl (fun h208 => ?_) (fun h208 => ?_)
          · refine k_iconst 215 216 C dL_sound_215 rfl (v := 1) rfl ?_
            refine k_iadd 216 217 C dL_sound_216 rfl  ?_
            refine k_rwI (y := nI ((offB S (kdr (S) (zd)) (zp)) + (1))) (nI_add (offB S (kdr (S) (zd)) (zp)) (1)) ?_
            refine k_perm [2, 3, 4, 5, 6, 0, 8, 9, 10, 11, 12, 13, 14, 15] (L' := [(18, _), (16, _), (14, _), (12, _), (10, _), (7, _), (6, _), (5, _), (9, _), (3, _), (4, _), (0, _), (1, _), (2, _)]) rfl ?_
            refine k_rwI (y := nI (offB S (kdr S zd) (zp + 1))) (by
              by_cases zz : onB S (kdr S zd) (nI zp) = true
              · first | (rw [offB_s, if_pos zz]; done) | (rw [if_pos zz] at h208; exact absurd h208 (by decide))
              · first | (rw [offB_s, if_neg zz]; done) | (rw [if_neg zz] at h208; exact absurd rfl h208)) ?_
            exact join217 hzp
          · refine k_iconst 211 212 C dL_sound_211 rfl (v := 0) rfl ?_
            refine k_goto 212 216 C dL_sound_212 (by decide) ?_
            refine k_iadd 216 217 C dL_sound_216 rfl  ?_
            refine k_rwI (y := nI ((offB S (kdr (S) (zd)) (zp)) + (0))) (nI_add (offB S (kdr (S) (zd)) (zp)) (0)) ?_
            refine k_perm [2, 3, 4, 5, 6, 0, 8, 9, 10, 11, 12, 13, 14, 15] (L' := [(18, _), (16, _), (14, _), (12, _), (10, _), (7, _), (6, _), (5, _), (9, _), (3, _), (4, _), (0, _), (1, _), (2, _)]) rfl ?_
            refine k_rwI (y := nI (offB S (kdr S zd) (zp + 1))) (by
              by_cases zz : onB S (kdr S zd) (nI zp) = true
              · first | (rw [offB_s, if_pos zz]; done) | (rw [if_pos zz] at h208; exact absurd h208 (by decide))
              · first | (rw [offB_s, if_neg zz]; done) | (rw [if_neg zz] at h208; exact absurd rfl h208)) ?_
            exact join217 hzp
        have join168 : (zp < rn (kdr S zd)) → KW E T V p l e { frames := 5, cells := 0, slots := 0, locals := 114 } s m args below meth c 21 0 0 (MQ below (va_Qi (fun (r : Int32) (V' : gV) => V' = V ∧ r = 1) (RepS E T) (gA E)) args s 0 0 (gA E)) 168 [(20, .int (if onB S (kdr S zd) (nI zp) = true then 1 else 0)), (18, .long (lN (wN (kdr S zd) zp))), (16, .long (J (LD (iY (kdr S zd) zp) (iP (kdr S zd))))), (14, .long (J (LN (iY (kdr S zd) zp) (iP (kdr S zd))))), (12, .long (J (LD (iX (kdr S zd) zp) (iP (kdr S zd))))), (10, .long (J (LN (iX (kdr S zd) zp) (iP (kdr S zd))))), (8, .int (nI (offB S (kdr S zd) (zp)))), (7, .int (maxW (kdr S zd) (zp))), (6, .int (sumW (kdr S zd) (zp))), (5, .int (nI (cntW (kdr S zd) (zp)))), (9, .int (nI zp)), (3, .int (frm S zd)), (4, .int (nI (rn (kdr S zd)))), (0, .ref a), (1, .int (nI (kn S))), (2, .int (nI zd))] [.int (nI (cntW (kdr S zd) (zp + 1)))] := by
          intro  hzp
          obtain ⟨⟨⟨f223, f230⟩, f239, f248⟩, ⟨⟨c1, c2, c3⟩, c4, c5, c6⟩, fo, ⟨f322, f331⟩, fj, fl, f0z⟩ := sp_all zr zoi ztf hzd hzp
          obtain ⟨w0, w1, w2, w3, w4⟩ := w_cases zr hzd hzp
          have won := on_w zr ztf hzd hzp
          have zb1 := (zr.b zd hzd).1.1
          refine k_istore 168 170 C [(5, _), (20, _), (18, _), (16, _), (14, _), (12, _), (10, _), (8, _), (7, _), (6, _), (9, _), (3, _), (4, _), (0, _), (1, _), (2, _)] dL_sound_168 rfl (by decide) rfl ?_
          refine k_iload 170 172 C dL_sound_170 rfl 9 rfl ?_
          refine k_aload_n 172 173 C dL_sound_172 rfl 13 rfl ?_
          refine k_iload_n 173 174 C dL_sound_173 rfl 15 rfl ?_
          refine k_iload 174 176 C dL_sound_174 rfl 10 rfl ?_
          refine k_bipush 176 178 C dL_sound_176 rfl (v := 6) rfl ?_
          refine k_callVL 178 181 C [_, _, _] [_] dL_sound_178 rfl (ct_X3_pointInfo hA g) mi_X3_pointInfo ml_L_19 im_X3_pointInfo se_X3_pointInfo ci_X3 (IsArm.o ‹_›) rfl rfl ⟨Nat.le_of_ble_eq_true rfl, Nat.le_of_ble_eq_true rfl⟩ (Nat.le_of_ble_eq_true rfl) (Nat.zero_le _) (Nat.zero_le _) (fun r178 V178 p178 => ?_)
          obtain ⟨rfl, rfl⟩ := And.intro p178.1.symm p178.2
          refine k_rwL (pi_6 zr hzd hzp) ?_
          refine k_l2i 181 182 C dL_sound_181 rfl  ?_
          refine k_iadd 182 183 C dL_sound_182 rfl  ?_
          refine k_rwI w2 ?_
          refine k_istore 183 185 C [(6, _), (5, _), (20, _), (18, _), (16, _), (14, _), (12, _), (10, _), (8, _), (7, _), (9, _), (3, _), (4, _), (0, _), (1, _), (2, _)] dL_sound_183 rfl (by decide) rfl ?_
          refine k_lload 185 187 C dL_sound_185 rfl 3 rfl ?_
          refine k_iload 187 189 C dL_sound_187 rfl 9 rfl ?_
          refine k_i2l 189 190 C dL_sound_189 rfl  ?_
          refine k_lcmp_le 190 191 200 194 C dL_sound_190 rfl dL_sound_191 (by decide) rfl (fun h191 => ?_) (fun h191 => ?_)
          · refine k_iload 200 202 C dL_sound_200 rfl 9 rfl ?_
            refine k_perm [2, 3, 4, 5, 6, 7, 8, 9, 0, 1, 10, 11, 12, 13, 14, 15] (L' := [(20, _), (18, _), (16, _), (14, _), (12, _), (10, _), (8, _), (7, _), (6, _), (5, _), (9, _), (3, _), (4, _), (0, _), (1, _), (2, _)]) rfl ?_
            refine k_rwI (y := maxW (kdr S zd) (zp + 1)) (by first | exact w3 h191 | exact w4 h191) ?_
            exact join202 hzp
          · refine k_lload 194 196 C dL_sound_194 rfl 3 rfl ?_
            refine k_l2i 196 197 C dL_sound_196 rfl  ?_
            refine k_goto 197 202 C dL_sound_197 (by decide) ?_
            refine k_perm [2, 3, 4, 5, 6, 7, 8, 9, 0, 1, 10, 11, 12, 13, 14, 15] (L' := [(20, _), (18, _), (16, _), (14, _), (12, _), (10, _), (8, _), (7, _), (6, _), (5, _), (9, _), (3, _), (4, _), (0, _), (1, _), (2, _)]) rfl ?_
            refine k_rwI (y := maxW (kdr S zd) (zp + 1)) (by first | exact w3 h191 | exact w4 h191) ?_
            exact join202 hzp
        have join151 : (zp < rn (kdr S zd)) → KW E T V p l e { frames := 5, cells := 0, slots := 0, locals := 114 } s m args below meth c 21 0 0 (MQ below (va_Qi (fun (r : Int32) (V' : gV) => V' = V ∧ r = 1) (RepS E T) (gA E)) args s 0 0 (gA E)) 151 [(18, .long (lN (wN (kdr S zd) zp))), (16, .long (J (LD (iY (kdr S zd) zp) (iP (kdr S zd))))), (14, .long (J (LN (iY (kdr S zd) zp) (iP (kdr S zd))))), (12, .long (J (LD (iX (kdr S zd) zp) (iP (kdr S zd))))), (10, .long (J (LN (iX (kdr S zd) zp) (iP (kdr S zd))))), (8, .int (nI (offB S (kdr S zd) (zp)))), (7, .int (maxW (kdr S zd) (zp))), (6, .int (sumW (kdr S zd) (zp))), (5, .int (nI (cntW (kdr S zd) (zp)))), (9, .int (nI zp)), (3, .int (frm S zd)), (4, .int (nI (rn (kdr S zd)))), (0, .ref a), (1, .int (nI (kn S))), (2, .int (nI zd))] [.int (if onB S (kdr S zd) (nI zp) = true then 1 else 0)] := by
          intro  hzp
          obtain ⟨⟨⟨f223, f230⟩, f239, f248⟩, ⟨⟨c1, c2, c3⟩, c4, c5, c6⟩, fo, ⟨f322, f331⟩, fj, fl, f0z⟩ := sp_all zr zoi ztf hzd hzp
          obtain ⟨w0, w1, w2, w3, w4⟩ := w_cases zr hzd hzp
          have won := on_w zr ztf hzd hzp
          have zb1 := (zr.b zd hzd).1.1
          refine k_istore 151 153 C [(20, _), (18, _), (16, _), (14, _), (12, _), (10, _), (8, _), (7, _), (6, _), (5, _), (9, _), (3, _), (4, _), (0, _), (1, _), (2, _)] dL_sound_151 rfl (by decide) rfl ?_
          refine k_iload 153 155 C dL_sound_153 rfl 9 rfl ?_
          refine k_lload 155 157 C dL_sound_155 rfl 1 rfl ?_
          refine k_lconst 157 158 C dL_sound_157 rfl (v := 0) rfl ?_
          refine k_lcmp_le 158 159 166 162 C dL_sound_158 rfl dL_sound_159 (by decide) rfl (fun h159 => ?_) (fun h159 => ?_)
          · refine k_iconst 166 167 C dL_sound_166 rfl (v := 0) rfl ?_
            refine k_iadd 167 168 C dL_sound_167 rfl  ?_
            refine k_rwI (y := nI ((cntW (kdr (S) (zd)) (zp)) + (0))) (nI_add (cntW (kdr (S) (zd)) (zp)) (0)) ?_
            refine k_rwI (y := nI (cntW (kdr S zd) (zp + 1))) (by first | (rw [(cnt_1 (w1 h159)).1]; done) | (rw [(cnt_0 (w0 h159)).1]; rfl)) ?_
            exact join168 hzp
          · refine k_iconst 162 163 C dL_sound_162 rfl (v := 1) rfl ?_
            refine k_goto 163 167 C dL_sound_163 (by decide) ?_
            refine k_iadd 167 168 C dL_sound_167 rfl  ?_
            refine k_rwI (y := nI ((cntW (kdr (S) (zd)) (zp)) + (1))) (nI_add (cntW (kdr (S) (zd)) (zp)) (1)) ?_
            refine k_rwI (y := nI (cntW (kdr S zd) (zp + 1))) (by first | (rw [(cnt_1 (w1 h159)).1]; done) | (rw [(cnt_0 (w0 h159)).1]; rfl)) ?_
            exact join168 hzp
        refine k_iload 43 45 C dL_sound_43 rfl 0 rfl ?_
        refine k_iload 45 47 C dL_sound_45 rfl 6 rfl ?_
        refine k_icmp_ge 47 401 50 C dL_sound_47 (by decide) rfl (fun h47 => ?_) (fun h47 => ?_)
        · obtain rfl : zp = rn (kdr S zd) := by have z := (nI_leI (a := rn (kdr S zd)) (b := zp) (by omega) (by omega)).mp h47; omega
          obtain ⟨⟨y1, y2⟩, ⟨y3, y4, y5⟩, y6, ⟨y7, y8⟩, y9, y10⟩ := sr_all zr ztf hzd
          refine k_aload_n 401 402 C dL_sound_401 rfl 7 rfl ?_
          refine k_iload_n 402 403 C dL_sound_402 rfl 9 rfl ?_
          refine k_bipush 403 405 C dL_sound_403 rfl (v := 6) rfl ?_
          refine k_callVI 405 408 C [_, _] [] dL_sound_405 rfl (ct_X3_drawing hA g (dr_nice zr)) mi_X3_drawing ml_L_15 im_X3_drawing se_X3_drawing ci_X3 (IsArm.o ‹_›) rfl rfl ⟨Nat.le_of_ble_eq_true rfl, Nat.le_of_ble_eq_true rfl⟩ (Nat.le_of_ble_eq_true rfl) (Nat.zero_le _) (Nat.zero_le _) (fun r405 V405 p405 => ?_)
          obtain ⟨rfl, rfl⟩ := And.intro p405.1.symm p405.2
          refine k_rwI (dg_6 zr hzd) ?_
          refine k_iload 408 410 C dL_sound_408 rfl 4 rfl ?_
          refine k_icmp_ne 410 535 413 C dL_sound_410 (by decide) rfl (fun h410 => ?_) (fun h410 => ?_)
          · exact absurd rfl h410
          · refine k_aload_n 413 414 C dL_sound_413 rfl 7 rfl ?_
            refine k_iload_n 414 415 C dL_sound_414 rfl 9 rfl ?_
            refine k_bipush 415 417 C dL_sound_415 rfl (v := 7) rfl ?_
            refine k_callVI 417 420 C [_, _] [] dL_sound_417 rfl (ct_X3_drawing hA g (dr_nice zr)) mi_X3_drawing ml_L_15 im_X3_drawing se_X3_drawing ci_X3 (IsArm.o ‹_›) rfl rfl ⟨Nat.le_of_ble_eq_true rfl, Nat.le_of_ble_eq_true rfl⟩ (Nat.le_of_ble_eq_true rfl) (Nat.zero_le _) (Nat.zero_le _) (fun r417 V417 p417 => ?_)
            obtain ⟨rfl, rfl⟩ := And.intro p417.1.symm p417.2
            refine k_rwI (dg_7 zr hzd) ?_
            refine k_iload 420 422 C dL_sound_420 rfl 3 rfl ?_
            refine k_icmp_ne 422 535 425 C dL_sound_422 (by decide) rfl (fun h422 => ?_) (fun h422 => ?_)
            · exact absurd rfl h422
            · refine k_aload_n 425 426 C dL_sound_425 rfl 7 rfl ?_
              refine k_iload_n 426 427 C dL_sound_426 rfl 9 rfl ?_
              refine k_bipush 427 429 C dL_sound_427 rfl (v := 8) rfl ?_
              refine k_callVI 429 432 C [_, _] [] dL_sound_429 rfl (ct_X3_drawing hA g (dr_nice zr)) mi_X3_drawing ml_L_15 im_X3_drawing se_X3_drawing ci_X3 (IsArm.o ‹_›) rfl rfl ⟨Nat.le_of_ble_eq_true rfl, Nat.le_of_ble_eq_true rfl⟩ (Nat.le_of_ble_eq_true rfl) (Nat.zero_le _) (Nat.zero_le _) (fun r429 V429 p429 => ?_)
              obtain ⟨rfl, rfl⟩ := And.intro p429.1.symm p429.2
              refine k_rwI (dg_8 zr hzd) ?_
              refine k_iload 432 434 C dL_sound_432 rfl 2 rfl ?_
              refine k_icmp_ne 434 535 437 C dL_sound_434 (by decide) rfl (fun h434 => ?_) (fun h434 => ?_)
              · exact absurd rfl h434
              · refine k_aload_n 437 438 C dL_sound_437 rfl 7 rfl ?_
                refine k_iload_n 438 439 C dL_sound_438 rfl 9 rfl ?_
                refine k_bipush 439 441 C dL_sound_439 rfl (v := 9) rfl ?_
                refine k_callVI 441 444 C [_, _] [] dL_sound_441 rfl (ct_X3_drawing hA g (dr_nice zr)) mi_X3_drawing ml_L_15 im_X3_drawing se_X3_drawing ci_X3 (IsArm.o ‹_›) rfl rfl ⟨Nat.le_of_ble_eq_true rfl, Nat.le_of_ble_eq_true rfl⟩ (Nat.le_of_ble_eq_true rfl) (Nat.zero_le _) (Nat.zero_le _) (fun r441 V441 p441 => ?_)
                obtain ⟨rfl, rfl⟩ := And.intro p441.1.symm p441.2
                refine k_rwI (dg_9 zr hzd) ?_
                refine k_iload 444 446 C dL_sound_444 rfl 1 rfl ?_
                refine k_icmp_ne 446 535 449 C dL_sound_446 (by decide) rfl (fun h446 => ?_) (fun h446 => ?_)
                · exact absurd rfl h446
                · refine k_aload_n 449 450 C dL_sound_449 rfl 7 rfl ?_
                  refine k_iload_n 450 451 C dL_sound_450 rfl 9 rfl ?_
                  refine k_iload_n 451 452 C dL_sound_451 rfl 9 rfl ?_
                  refine k_callVI 452 455 C [_, _] [] dL_sound_452 rfl (ct_X3_alike hA g) mi_X3_alike ml_L_36 im_X3_alike se_X3_alike ci_X3 (IsArm.o ‹_›) rfl rfl ⟨Nat.le_of_ble_eq_true rfl, Nat.le_of_ble_eq_true rfl⟩ (Nat.le_of_ble_eq_true rfl) (Nat.zero_le _) (Nat.zero_le _) (fun r452 V452 p452 => ?_)
                  obtain ⟨rfl, rfl⟩ := And.intro p452.1.symm p452.2
                  refine k_rwI (al_d zr hzd) ?_
                  refine k_iload 455 457 C dL_sound_455 rfl 6 rfl ?_
                  refine k_icmp_ne 457 535 460 C dL_sound_457 (by decide) rfl (fun h457 => ?_) (fun h457 => ?_)
                  · exact absurd rfl h457
                  · refine k_aload_n 460 461 C dL_sound_460 rfl 7 rfl ?_
                    refine k_iload_n 461 462 C dL_sound_461 rfl 9 rfl ?_
                    refine k_iload_n 462 463 C dL_sound_462 rfl 9 rfl ?_
                    refine k_callVI 463 466 C [_, _] [] dL_sound_463 rfl (ct_X3_armFor hA g) mi_X3_armFor ml_L_39 im_X3_armFor se_X3_armFor ci_X3 (IsArm.o ‹_›) rfl rfl ⟨Nat.le_of_ble_eq_true rfl, Nat.le_of_ble_eq_true rfl⟩ (Nat.le_of_ble_eq_true rfl) (Nat.zero_le _) (Nat.zero_le _) (fun r463 V463 p463 => ?_)
                    obtain ⟨rfl, rfl⟩ := And.intro p463.1.symm p463.2
                    refine k_rwI (af_d zr hzd) ?_
                    refine k_bipush 466 468 C dL_sound_466 rfl (v := 101) rfl ?_
                    refine k_icmp_ne 468 535 471 C dL_sound_468 (by decide) rfl (fun h468 => ?_) (fun h468 => ?_)
                    · exact absurd rfl h468
                    · refine k_aload_n 471 472 C dL_sound_471 rfl 7 rfl ?_
                      refine k_iload_n 472 473 C dL_sound_472 rfl 9 rfl ?_
                      refine k_iconst 473 474 C dL_sound_473 rfl (v := 0) rfl ?_
                      refine k_callVI 474 477 C [_, _] [] dL_sound_474 rfl (ct_X3_ratio hA g) mi_X3_ratio ml_L_42 im_X3_ratio se_X3_ratio ci_X3 (IsArm.o ‹_›) rfl rfl ⟨Nat.le_of_ble_eq_true rfl, Nat.le_of_ble_eq_true rfl⟩ (Nat.le_of_ble_eq_true rfl) (Nat.zero_le _) (Nat.zero_le _) (fun r474 V474 p474 => ?_)
                      obtain ⟨rfl, rfl⟩ := And.intro p474.1.symm p474.2
                      refine k_rwI (ra_0 zr hzd) ?_
                      refine k_i2l 477 478 C dL_sound_477 rfl  ?_
                      refine k_rwL y1 ?_
                      refine k_aload_n 478 479 C dL_sound_478 rfl 7 rfl ?_
                      refine k_iload_n 479 480 C dL_sound_479 rfl 9 rfl ?_
                      refine k_iconst 480 481 C dL_sound_480 rfl (v := 1) rfl ?_
                      refine k_callVI 481 484 C [_, _] [_] dL_sound_481 rfl (ct_X3_ratio hA g) mi_X3_ratio ml_L_42 im_X3_ratio se_X3_ratio ci_X3 (IsArm.o ‹_›) rfl rfl ⟨Nat.le_of_ble_eq_true rfl, Nat.le_of_ble_eq_true rfl⟩ (Nat.le_of_ble_eq_true rfl) (Nat.zero_le _) (Nat.zero_le _) (fun r481 V481 p481 => ?_)
                      obtain ⟨rfl, rfl⟩ := And.intro p481.1.symm p481.2
                      refine k_rwI (ra_1 zr hzd) ?_
                      refine k_i2l 484 485 C dL_sound_484 rfl  ?_
                      refine k_rwL y2 ?_
                      refine k_callSL 485 488 C [_, _] [] dL_sound_485 rfl (ct_L_common y3 y4 y5) mi_L_common ml_L_25 st_L_common rfl rfl ⟨Nat.le_of_ble_eq_true rfl, Nat.le_of_ble_eq_true rfl⟩ (Nat.le_of_ble_eq_true rfl) (Nat.zero_le _) (Nat.zero_le _) (fun r485 V485 p485 => ?_)
                      obtain ⟨rfl, rfl⟩ := And.intro p485.1.symm p485.2
                      refine k_lconst 488 489 C dL_sound_488 rfl (v := 1) rfl ?_
                      refine k_lcmp_ne 489 490 535 493 C dL_sound_489 rfl dL_sound_490 (by decide) rfl (fun h490 => ?_) (fun h490 => ?_)
                      · exact absurd y6 h490
                      · refine k_aload_n 493 494 C dL_sound_493 rfl 7 rfl ?_
                        refine k_iload_n 494 495 C dL_sound_494 rfl 9 rfl ?_
                        refine k_iconst 495 496 C dL_sound_495 rfl (v := 0) rfl ?_
                        refine k_callVI 496 499 C [_, _] [] dL_sound_496 rfl (ct_X3_ratio hA g) mi_X3_ratio ml_L_42 im_X3_ratio se_X3_ratio ci_X3 (IsArm.o ‹_›) rfl rfl ⟨Nat.le_of_ble_eq_true rfl, Nat.le_of_ble_eq_true rfl⟩ (Nat.le_of_ble_eq_true rfl) (Nat.zero_le _) (Nat.zero_le _) (fun r496 V496 p496 => ?_)
                        obtain ⟨rfl, rfl⟩ := And.intro p496.1.symm p496.2
                        refine k_rwI (ra_0 zr hzd) ?_
                        refine k_iconst 499 500 C dL_sound_499 rfl (v := 1) rfl ?_
                        refine k_icmp_lt 500 535 503 C dL_sound_500 (by decide) rfl (fun h500 => ?_) (fun h500 => ?_)
                        · exact absurd h500 y7
                        · refine k_aload_n 503 504 C dL_sound_503 rfl 7 rfl ?_
                          refine k_iload_n 504 505 C dL_sound_504 rfl 9 rfl ?_
                          refine k_iconst 505 506 C dL_sound_505 rfl (v := 0) rfl ?_
                          refine k_callVI 506 509 C [_, _] [] dL_sound_506 rfl (ct_X3_ratio hA g) mi_X3_ratio ml_L_42 im_X3_ratio se_X3_ratio ci_X3 (IsArm.o ‹_›) rfl rfl ⟨Nat.le_of_ble_eq_true rfl, Nat.le_of_ble_eq_true rfl⟩ (Nat.le_of_ble_eq_true rfl) (Nat.zero_le _) (Nat.zero_le _) (fun r506 V506 p506 => ?_)
                          obtain ⟨rfl, rfl⟩ := And.intro p506.1.symm p506.2
                          refine k_rwI (ra_0 zr hzd) ?_
                          refine k_ldc 509 511 C dL_sound_509 rfl kc_L_45 ?_
                          refine k_icmp_gt 511 535 514 C dL_sound_511 (by decide) rfl (fun h511 => ?_) (fun h511 => ?_)
                          · exact absurd h511 y8
                          · refine k_aload_n 514 515 C dL_sound_514 rfl 7 rfl ?_
                            refine k_iload_n 515 516 C dL_sound_515 rfl 9 rfl ?_
                            refine k_iconst 516 517 C dL_sound_516 rfl (v := 1) rfl ?_
                            refine k_callVI 517 520 C [_, _] [] dL_sound_517 rfl (ct_X3_ratio hA g) mi_X3_ratio ml_L_42 im_X3_ratio se_X3_ratio ci_X3 (IsArm.o ‹_›) rfl rfl ⟨Nat.le_of_ble_eq_true rfl, Nat.le_of_ble_eq_true rfl⟩ (Nat.le_of_ble_eq_true rfl) (Nat.zero_le _) (Nat.zero_le _) (fun r517 V517 p517 => ?_)
                            obtain ⟨rfl, rfl⟩ := And.intro p517.1.symm p517.2
                            refine k_rwI (ra_1 zr hzd) ?_
                            refine k_iconst 520 521 C dL_sound_520 rfl (v := 1) rfl ?_
                            refine k_icmp_lt 521 535 524 C dL_sound_521 (by decide) rfl (fun h521 => ?_) (fun h521 => ?_)
                            · exact absurd h521 y9
                            · refine k_aload_n 524 525 C dL_sound_524 rfl 7 rfl ?_
                              refine k_iload_n 525 526 C dL_sound_525 rfl 9 rfl ?_
                              refine k_iconst 526 527 C dL_sound_526 rfl (v := 1) rfl ?_
                              refine k_callVI 527 530 C [_, _] [] dL_sound_527 rfl (ct_X3_ratio hA g) mi_X3_ratio ml_L_42 im_X3_ratio se_X3_ratio ci_X3 (IsArm.o ‹_›) rfl rfl ⟨Nat.le_of_ble_eq_true rfl, Nat.le_of_ble_eq_true rfl⟩ (Nat.le_of_ble_eq_true rfl) (Nat.zero_le _) (Nat.zero_le _) (fun r527 V527 p527 => ?_)
                              obtain ⟨rfl, rfl⟩ := And.intro p527.1.symm p527.2
                              refine k_rwI (ra_1 zr hzd) ?_
                              refine k_ldc 530 532 C dL_sound_530 rfl kc_L_45 ?_
                              refine k_icmp_le 532 537 535 C dL_sound_532 (by decide) rfl (fun h532 => ?_) (fun h532 => ?_)
                              · refine k_iload_n 537 538 C dL_sound_537 rfl 5 rfl ?_
                                refine k_ldc 538 540 C dL_sound_538 rfl kc_L_31 ?_
                                refine k_icmp_ne 540 605 543 C dL_sound_540 (by decide) rfl (fun h540 => ?_) (fun h540 => ?_)
                                · obtain ⟨zq, hq0, zfr, q1, q2, q3⟩ := sc_all zr hzd h540
                                  have hzq : zq < kn S := by omega
                                  rw [zfr]
                                  refine k_iload_n 605 606 C dL_sound_605 rfl 5 rfl ?_
                                  refine k_if_lt 606 673 609 C dL_sound_606 (by decide) rfl (fun h606 => ?_) (fun h606 => ?_)
                                  · exact absurd h606 (nI_pos (by omega))
                                  · refine k_iload_n 609 610 C dL_sound_609 rfl 5 rfl ?_
                                    refine k_iload_n 610 611 C dL_sound_610 rfl 8 rfl ?_
                                    refine k_icmp_ge 611 673 614 C dL_sound_611 (by decide) rfl (fun h611 => ?_) (fun h611 => ?_)
                                    · exact absurd ((nI_leI (a := kn S) (b := zq) (by omega) (by omega)).mp h611) (by omega)
                                    · refine k_iload_n 614 615 C dL_sound_614 rfl 5 rfl ?_
                                      refine k_iload_n 615 616 C dL_sound_615 rfl 9 rfl ?_
                                      refine k_icmp_eq 616 673 619 C dL_sound_616 (by decide) rfl (fun h616 => ?_) (fun h616 => ?_)
                                      · exact absurd ((nI_eq (a := zq) (b := zd) (by omega) (by omega)).mp h616) (by omega)
                                      · refine k_aload_n 619 620 C dL_sound_619 rfl 7 rfl ?_
                                        refine k_iload_n 620 621 C dL_sound_620 rfl 9 rfl ?_
                                        refine k_iconst 621 622 C dL_sound_621 rfl (v := 2) rfl ?_
                                        refine k_callVI 622 625 C [_, _] [] dL_sound_622 rfl (ct_X3_drawing hA g (dr_nice zr)) mi_X3_drawing ml_L_15 im_X3_drawing se_X3_drawing ci_X3 (IsArm.o ‹_›) rfl rfl ⟨Nat.le_of_ble_eq_true rfl, Nat.le_of_ble_eq_true rfl⟩ (Nat.le_of_ble_eq_true rfl) (Nat.zero_le _) (Nat.zero_le _) (fun r622 V622 p622 => ?_)
                                        obtain ⟨rfl, rfl⟩ := And.intro p622.1.symm p622.2
                                        refine k_rwI (dg_2 zr hzd) ?_
                                        refine k_aload_n 625 626 C dL_sound_625 rfl 7 rfl ?_
                                        refine k_iload_n 626 627 C dL_sound_626 rfl 5 rfl ?_
                                        refine k_iconst 627 628 C dL_sound_627 rfl (v := 2) rfl ?_
                                        refine k_callVI 628 631 C [_, _] [_] dL_sound_628 rfl (ct_X3_drawing hA g (dr_nice zr)) mi_X3_drawing ml_L_15 im_X3_drawing se_X3_drawing ci_X3 (IsArm.o ‹_›) rfl rfl ⟨Nat.le_of_ble_eq_true rfl, Nat.le_of_ble_eq_true rfl⟩ (Nat.le_of_ble_eq_true rfl) (Nat.zero_le _) (Nat.zero_le _) (fun r628 V628 p628 => ?_)
                                        obtain ⟨rfl, rfl⟩ := And.intro p628.1.symm p628.2
                                        refine k_rwI (dg_2 zr hzq) ?_
                                        refine k_icmp_ne 631 673 634 C dL_sound_631 (by decide) rfl (fun h631 => ?_) (fun h631 => ?_)
                                        · exact absurd q1 h631
                                        · refine k_aload_n 634 635 C dL_sound_634 rfl 7 rfl ?_
                                          refine k_iload_n 635 636 C dL_sound_635 rfl 9 rfl ?_
                                          refine k_iconst 636 637 C dL_sound_636 rfl (v := 3) rfl ?_
                                          refine k_callVI 637 640 C [_, _] [] dL_sound_637 rfl (ct_X3_drawing hA g (dr_nice zr)) mi_X3_drawing ml_L_15 im_X3_drawing se_X3_drawing ci_X3 (IsArm.o ‹_›) rfl rfl ⟨Nat.le_of_ble_eq_true rfl, Nat.le_of_ble_eq_true rfl⟩ (Nat.le_of_ble_eq_true rfl) (Nat.zero_le _) (Nat.zero_le _) (fun r637 V637 p637 => ?_)
                                          obtain ⟨rfl, rfl⟩ := And.intro p637.1.symm p637.2
                                          refine k_rwI (dg_3 zr hzd) ?_
                                          refine k_aload_n 640 641 C dL_sound_640 rfl 7 rfl ?_
                                          refine k_iload_n 641 642 C dL_sound_641 rfl 5 rfl ?_
                                          refine k_iconst 642 643 C dL_sound_642 rfl (v := 3) rfl ?_
                                          refine k_callVI 643 646 C [_, _] [_] dL_sound_643 rfl (ct_X3_drawing hA g (dr_nice zr)) mi_X3_drawing ml_L_15 im_X3_drawing se_X3_drawing ci_X3 (IsArm.o ‹_›) rfl rfl ⟨Nat.le_of_ble_eq_true rfl, Nat.le_of_ble_eq_true rfl⟩ (Nat.le_of_ble_eq_true rfl) (Nat.zero_le _) (Nat.zero_le _) (fun r643 V643 p643 => ?_)
                                          obtain ⟨rfl, rfl⟩ := And.intro p643.1.symm p643.2
                                          refine k_rwI (dg_3 zr hzq) ?_
                                          refine k_iconst 646 647 C dL_sound_646 rfl (v := 1) rfl ?_
                                          refine k_iadd 647 648 C dL_sound_647 rfl  ?_
                                          refine k_icmp_ne 648 673 651 C dL_sound_648 (by decide) rfl (fun h648 => ?_) (fun h648 => ?_)
                                          · exact absurd q2 h648
                                          · refine k_iload 651 653 C dL_sound_651 rfl 6 rfl ?_
                                            refine k_aload_n 653 654 C dL_sound_653 rfl 7 rfl ?_
                                            refine k_iload_n 654 655 C dL_sound_654 rfl 5 rfl ?_
                                            refine k_iconst 655 656 C dL_sound_655 rfl (v := 0) rfl ?_
                                            refine k_callVI 656 659 C [_, _] [_] dL_sound_656 rfl (ct_X3_drawing hA g (dr_nice zr)) mi_X3_drawing ml_L_15 im_X3_drawing se_X3_drawing ci_X3 (IsArm.o ‹_›) rfl rfl ⟨Nat.le_of_ble_eq_true rfl, Nat.le_of_ble_eq_true rfl⟩ (Nat.le_of_ble_eq_true rfl) (Nat.zero_le _) (Nat.zero_le _) (fun r656 V656 p656 => ?_)
                                            obtain ⟨rfl, rfl⟩ := And.intro p656.1.symm p656.2
                                            refine k_rwI (dg_0 zr hzq) ?_
                                            refine k_icmp_eq 659 675 662 C dL_sound_659 (by decide) rfl (fun h659 => ?_) (fun h659 => ?_)
                                            · refine k_iinc 675 678 C [(2, _), (9, _), (8, _), (7, _), (6, _), (5, _), (3, _), (4, _), (0, _), (1, _)] (nI (zd + 1)) dL_sound_675 rfl 9 rfl (nI_1 (zd)) (by decide) rfl ?_
                                              refine k_goto 678 8 C dL_sound_678 (by decide) ?_
                                              refine k_perm [0, 8, 9] (L' := [(2, _), (0, _), (1, _)]) rfl ?_
                                              exact ih8 (kn S - (zd + 1)) (by omega) (zd + 1) rfl (by omega)
                                            · exact absurd (congrArg nI q3) h659
                                · obtain ⟨u0, u1, u2, ⟨u3, u4⟩, u5, u6⟩ := so_all zr zoi hzd h540
                                  refine k_aload_n 543 544 C dL_sound_543 rfl 7 rfl ?_
                                  refine k_iload_n 544 545 C dL_sound_544 rfl 9 rfl ?_
                                  refine k_iconst 545 546 C dL_sound_545 rfl (v := 2) rfl ?_
                                  refine k_callVI 546 549 C [_, _] [] dL_sound_546 rfl (ct_X3_drawing hA g (dr_nice zr)) mi_X3_drawing ml_L_15 im_X3_drawing se_X3_drawing ci_X3 (IsArm.o ‹_›) rfl rfl ⟨Nat.le_of_ble_eq_true rfl, Nat.le_of_ble_eq_true rfl⟩ (Nat.le_of_ble_eq_true rfl) (Nat.zero_le _) (Nat.zero_le _) (fun r546 V546 p546 => ?_)
                                  obtain ⟨rfl, rfl⟩ := And.intro p546.1.symm p546.2
                                  refine k_rwI (dg_2 zr hzd) ?_
                                  refine k_iload_n 549 550 C dL_sound_549 rfl 9 rfl ?_
                                  refine k_icmp_ne 550 673 553 C dL_sound_550 (by decide) rfl (fun h550 => ?_) (fun h550 => ?_)
                                  · exact absurd u1 h550
                                  · refine k_aload_n 553 554 C dL_sound_553 rfl 7 rfl ?_
                                    refine k_iload_n 554 555 C dL_sound_554 rfl 9 rfl ?_
                                    refine k_iconst 555 556 C dL_sound_555 rfl (v := 3) rfl ?_
                                    refine k_callVI 556 559 C [_, _] [] dL_sound_556 rfl (ct_X3_drawing hA g (dr_nice zr)) mi_X3_drawing ml_L_15 im_X3_drawing se_X3_drawing ci_X3 (IsArm.o ‹_›) rfl rfl ⟨Nat.le_of_ble_eq_true rfl, Nat.le_of_ble_eq_true rfl⟩ (Nat.le_of_ble_eq_true rfl) (Nat.zero_le _) (Nat.zero_le _) (fun r556 V556 p556 => ?_)
                                    obtain ⟨rfl, rfl⟩ := And.intro p556.1.symm p556.2
                                    refine k_rwI (dg_3 zr hzd) ?_
                                    refine k_if_ne 559 673 562 C dL_sound_559 (by decide) rfl (fun h559 => ?_) (fun h559 => ?_)
                                    · exact absurd u2 h559
                                    · refine k_aload_n 562 563 C dL_sound_562 rfl 7 rfl ?_
                                      refine k_iload_n 563 564 C dL_sound_563 rfl 9 rfl ?_
                                      refine k_iconst 564 565 C dL_sound_564 rfl (v := 0) rfl ?_
                                      refine k_callVI 565 568 C [_, _] [] dL_sound_565 rfl (ct_X3_ratio hA g) mi_X3_ratio ml_L_42 im_X3_ratio se_X3_ratio ci_X3 (IsArm.o ‹_›) rfl rfl ⟨Nat.le_of_ble_eq_true rfl, Nat.le_of_ble_eq_true rfl⟩ (Nat.le_of_ble_eq_true rfl) (Nat.zero_le _) (Nat.zero_le _) (fun r565 V565 p565 => ?_)
                                      obtain ⟨rfl, rfl⟩ := And.intro p565.1.symm p565.2
                                      refine k_rwI (ra_0 zr hzd) ?_
                                      refine k_iconst 568 569 C dL_sound_568 rfl (v := 1) rfl ?_
                                      refine k_icmp_ne 569 673 572 C dL_sound_569 (by decide) rfl (fun h569 => ?_) (fun h569 => ?_)
                                      · exact absurd u3 h569
                                      · refine k_aload_n 572 573 C dL_sound_572 rfl 7 rfl ?_
                                        refine k_iload_n 573 574 C dL_sound_573 rfl 9 rfl ?_
                                        refine k_iconst 574 575 C dL_sound_574 rfl (v := 1) rfl ?_
                                        refine k_callVI 575 578 C [_, _] [] dL_sound_575 rfl (ct_X3_ratio hA g) mi_X3_ratio ml_L_42 im_X3_ratio se_X3_ratio ci_X3 (IsArm.o ‹_›) rfl rfl ⟨Nat.le_of_ble_eq_true rfl, Nat.le_of_ble_eq_true rfl⟩ (Nat.le_of_ble_eq_true rfl) (Nat.zero_le _) (Nat.zero_le _) (fun r575 V575 p575 => ?_)
                                        obtain ⟨rfl, rfl⟩ := And.intro p575.1.symm p575.2
                                        refine k_rwI (ra_1 zr hzd) ?_
                                        refine k_iconst 578 579 C dL_sound_578 rfl (v := 1) rfl ?_
                                        refine k_icmp_ne 579 673 582 C dL_sound_579 (by decide) rfl (fun h579 => ?_) (fun h579 => ?_)
                                        · exact absurd u4 h579
                                        · refine k_aload_n 582 583 C dL_sound_582 rfl 7 rfl ?_
                                          refine k_iload_n 583 584 C dL_sound_583 rfl 9 rfl ?_
                                          refine k_iconst 584 585 C dL_sound_584 rfl (v := 4) rfl ?_
                                          refine k_callVI 585 588 C [_, _] [] dL_sound_585 rfl (ct_X3_drawing hA g (dr_nice zr)) mi_X3_drawing ml_L_15 im_X3_drawing se_X3_drawing ci_X3 (IsArm.o ‹_›) rfl rfl ⟨Nat.le_of_ble_eq_true rfl, Nat.le_of_ble_eq_true rfl⟩ (Nat.le_of_ble_eq_true rfl) (Nat.zero_le _) (Nat.zero_le _) (fun r585 V585 p585 => ?_)
                                          obtain ⟨rfl, rfl⟩ := And.intro p585.1.symm p585.2
                                          refine k_rwI (dg_4 zr hzd) ?_
                                          refine k_iconst 588 589 C dL_sound_588 rfl (v := 1) rfl ?_
                                          refine k_icmp_ne 589 673 592 C dL_sound_589 (by decide) rfl (fun h589 => ?_) (fun h589 => ?_)
                                          · exact absurd u5 h589
                                          · refine k_aload_n 592 593 C dL_sound_592 rfl 7 rfl ?_
                                            refine k_iload_n 593 594 C dL_sound_593 rfl 9 rfl ?_
                                            refine k_iconst 594 595 C dL_sound_594 rfl (v := 5) rfl ?_
                                            refine k_callVI 595 598 C [_, _] [] dL_sound_595 rfl (ct_X3_drawing hA g (dr_nice zr)) mi_X3_drawing ml_L_15 im_X3_drawing se_X3_drawing ci_X3 (IsArm.o ‹_›) rfl rfl ⟨Nat.le_of_ble_eq_true rfl, Nat.le_of_ble_eq_true rfl⟩ (Nat.le_of_ble_eq_true rfl) (Nat.zero_le _) (Nat.zero_le _) (fun r595 V595 p595 => ?_)
                                            obtain ⟨rfl, rfl⟩ := And.intro p595.1.symm p595.2
                                            refine k_rwI (dg_5 zr hzd) ?_
                                            refine k_iconst 598 599 C dL_sound_598 rfl (v := 1) rfl ?_
                                            refine k_icmp_eq 599 675 602 C dL_sound_599 (by decide) rfl (fun h599 => ?_) (fun h599 => ?_)
                                            · refine k_iinc 675 678 C [(2, _), (9, _), (8, _), (7, _), (6, _), (5, _), (3, _), (4, _), (0, _), (1, _)] (nI (zd + 1)) dL_sound_675 rfl 9 rfl (nI_1 (zd)) (by decide) rfl ?_
                                              refine k_goto 678 8 C dL_sound_678 (by decide) ?_
                                              refine k_perm [0, 8, 9] (L' := [(2, _), (0, _), (1, _)]) rfl ?_
                                              exact ih8 (kn S - (zd + 1)) (by omega) (zd + 1) rfl (by omega)
                                            · exact absurd u6 h599
                              · exact absurd y10 h532
        · have hzp : zp < rn (kdr S zd) := Nat.lt_of_not_le (fun zz => h47 ((nI_leI (a := rn (kdr S zd)) (b := zp) (by omega) (by omega)).mpr zz))
          obtain ⟨⟨⟨f223, f230⟩, f239, f248⟩, ⟨⟨c1, c2, c3⟩, c4, c5, c6⟩, fo, ⟨f322, f331⟩, fj, fl, f0z⟩ := sp_all zr zoi ztf hzd hzp
          obtain ⟨w0, w1, w2, w3, w4⟩ := w_cases zr hzd hzp
          have won := on_w zr ztf hzd hzp
          have zb1 := (zr.b zd hzd).1.1
          refine k_aload_n 50 51 C dL_sound_50 rfl 7 rfl ?_
          refine k_iload_n 51 52 C dL_sound_51 rfl 9 rfl ?_
          refine k_iload 52 54 C dL_sound_52 rfl 0 rfl ?_
          refine k_iconst 54 55 C dL_sound_54 rfl (v := 0) rfl ?_
          refine k_callVL 55 58 C [_, _, _] [] dL_sound_55 rfl (ct_X3_pointInfo hA g) mi_X3_pointInfo ml_L_19 im_X3_pointInfo se_X3_pointInfo ci_X3 (IsArm.o ‹_›) rfl rfl ⟨Nat.le_of_ble_eq_true rfl, Nat.le_of_ble_eq_true rfl⟩ (Nat.le_of_ble_eq_true rfl) (Nat.zero_le _) (Nat.zero_le _) (fun r55 V55 p55 => ?_)
          obtain ⟨rfl, rfl⟩ := And.intro p55.1.symm p55.2
          refine k_rwL (pi_0 zr hzd hzp) ?_
          refine k_lstore 58 60 C [(10, _), (9, _), (8, _), (7, _), (6, _), (5, _), (3, _), (4, _), (0, _), (1, _), (2, _)] dL_sound_58 rfl (by decide) rfl ?_
          refine k_aload_n 60 61 C dL_sound_60 rfl 8 rfl ?_
          refine k_iload_n 61 62 C dL_sound_61 rfl 10 rfl ?_
          refine k_iload 62 64 C dL_sound_62 rfl 1 rfl ?_
          refine k_iconst 64 65 C dL_sound_64 rfl (v := 1) rfl ?_
          refine k_callVL 65 68 C [_, _, _] [] dL_sound_65 rfl (ct_X3_pointInfo hA g) mi_X3_pointInfo ml_L_19 im_X3_pointInfo se_X3_pointInfo ci_X3 (IsArm.o ‹_›) rfl rfl ⟨Nat.le_of_ble_eq_true rfl, Nat.le_of_ble_eq_true rfl⟩ (Nat.le_of_ble_eq_true rfl) (Nat.zero_le _) (Nat.zero_le _) (fun r65 V65 p65 => ?_)
          obtain ⟨rfl, rfl⟩ := And.intro p65.1.symm p65.2
          refine k_rwL (pi_1 zr hzd hzp) ?_
          refine k_lstore 68 70 C [(12, _), (10, _), (9, _), (8, _), (7, _), (6, _), (5, _), (3, _), (4, _), (0, _), (1, _), (2, _)] dL_sound_68 rfl (by decide) rfl ?_
          refine k_aload_n 70 71 C dL_sound_70 rfl 9 rfl ?_
          refine k_iload_n 71 72 C dL_sound_71 rfl 11 rfl ?_
          refine k_iload 72 74 C dL_sound_72 rfl 2 rfl ?_
          refine k_iconst 74 75 C dL_sound_74 rfl (v := 2) rfl ?_
          refine k_callVL 75 78 C [_, _, _] [] dL_sound_75 rfl (ct_X3_pointInfo hA g) mi_X3_pointInfo ml_L_19 im_X3_pointInfo se_X3_pointInfo ci_X3 (IsArm.o ‹_›) rfl rfl ⟨Nat.le_of_ble_eq_true rfl, Nat.le_of_ble_eq_true rfl⟩ (Nat.le_of_ble_eq_true rfl) (Nat.zero_le _) (Nat.zero_le _) (fun r75 V75 p75 => ?_)
          obtain ⟨rfl, rfl⟩ := And.intro p75.1.symm p75.2
          refine k_rwL (pi_2 zr hzd hzp) ?_
          refine k_lstore 78 80 C [(14, _), (12, _), (10, _), (9, _), (8, _), (7, _), (6, _), (5, _), (3, _), (4, _), (0, _), (1, _), (2, _)] dL_sound_78 rfl (by decide) rfl ?_
          refine k_aload_n 80 81 C dL_sound_80 rfl 10 rfl ?_
          refine k_iload_n 81 82 C dL_sound_81 rfl 12 rfl ?_
          refine k_iload 82 84 C dL_sound_82 rfl 3 rfl ?_
          refine k_iconst 84 85 C dL_sound_84 rfl (v := 3) rfl ?_
          refine k_callVL 85 88 C [_, _, _] [] dL_sound_85 rfl (ct_X3_pointInfo hA g) mi_X3_pointInfo ml_L_19 im_X3_pointInfo se_X3_pointInfo ci_X3 (IsArm.o ‹_›) rfl rfl ⟨Nat.le_of_ble_eq_true rfl, Nat.le_of_ble_eq_true rfl⟩ (Nat.le_of_ble_eq_true rfl) (Nat.zero_le _) (Nat.zero_le _) (fun r85 V85 p85 => ?_)
          obtain ⟨rfl, rfl⟩ := And.intro p85.1.symm p85.2
          refine k_rwL (pi_3 zr hzd hzp) ?_
          refine k_lstore 88 90 C [(16, _), (14, _), (12, _), (10, _), (9, _), (8, _), (7, _), (6, _), (5, _), (3, _), (4, _), (0, _), (1, _), (2, _)] dL_sound_88 rfl (by decide) rfl ?_
          refine k_aload_n 90 91 C dL_sound_90 rfl 11 rfl ?_
          refine k_iload_n 91 92 C dL_sound_91 rfl 13 rfl ?_
          refine k_iload 92 94 C dL_sound_92 rfl 4 rfl ?_
          refine k_iconst 94 95 C dL_sound_94 rfl (v := 5) rfl ?_
          refine k_callVL 95 98 C [_, _, _] [] dL_sound_95 rfl (ct_X3_pointInfo hA g) mi_X3_pointInfo ml_L_19 im_X3_pointInfo se_X3_pointInfo ci_X3 (IsArm.o ‹_›) rfl rfl ⟨Nat.le_of_ble_eq_true rfl, Nat.le_of_ble_eq_true rfl⟩ (Nat.le_of_ble_eq_true rfl) (Nat.zero_le _) (Nat.zero_le _) (fun r95 V95 p95 => ?_)
          obtain ⟨rfl, rfl⟩ := And.intro p95.1.symm p95.2
          refine k_rwL (pi_5 zr hzd hzp) ?_
          refine k_lstore 98 100 C [(18, _), (16, _), (14, _), (12, _), (10, _), (9, _), (8, _), (7, _), (6, _), (5, _), (3, _), (4, _), (0, _), (1, _), (2, _)] dL_sound_98 rfl (by decide) rfl ?_
          refine k_lload 100 102 C dL_sound_100 rfl 4 rfl ?_
          refine k_lconst 102 103 C dL_sound_102 rfl (v := 0) rfl ?_
          refine k_lcmp_lt 103 104 150 107 C dL_sound_103 rfl dL_sound_104 (by decide) rfl (fun h104 => ?_) (fun h104 => ?_)
          · refine k_iconst 150 151 C dL_sound_150 rfl (v := 0) rfl ?_
            refine k_perm [0, 1, 2, 3, 4, 6, 7, 8, 9, 5, 10, 11, 12, 13, 14] (L' := [(18, _), (16, _), (14, _), (12, _), (10, _), (8, _), (7, _), (6, _), (5, _), (9, _), (3, _), (4, _), (0, _), (1, _), (2, _)]) rfl ?_
            refine k_rwI (y := if onB S (kdr S zd) (nI zp) = true then 1 else 0) (by first | (rw [if_pos (won.mpr ⟨h104, h111, h127, h143⟩)]; done) | (rw [if_neg (fun zz => (won.mp zz).1 h104)]; done) | (rw [if_neg (fun zz => (won.mp zz).2.1 h111)]; done) | (rw [if_neg (fun zz => (won.mp zz).2.2.1 h127)]; done) | (rw [if_neg (fun zz => (won.mp zz).2.2.2 h143)]; done)) ?_
            exact join151 hzp
          · refine k_lload 107 109 C dL_sound_107 rfl 2 rfl ?_
            refine k_lconst 109 110 C dL_sound_109 rfl (v := 0) rfl ?_
            refine k_lcmp_lt 110 111 150 114 C dL_sound_110 rfl dL_sound_111 (by decide) rfl (fun h111 => ?_) (fun h111 => ?_)
            · refine k_iconst 150 151 C dL_sound_150 rfl (v := 0) rfl ?_
              refine k_perm [0, 1, 2, 3, 4, 6, 7, 8, 9, 5, 10, 11, 12, 13, 14] (L' := [(18, _), (16, _), (14, _), (12, _), (10, _), (8, _), (7, _), (6, _), (5, _), (9, _), (3, _), (4, _), (0, _), (1, _), (2, _)]) rfl ?_
              refine k_rwI (y := if onB S (kdr S zd) (nI zp) = true then 1 else 0) (by first | (rw [if_pos (won.mpr ⟨h104, h111, h127, h143⟩)]; done) | (rw [if_neg (fun zz => (won.mp zz).1 h104)]; done) | (rw [if_neg (fun zz => (won.mp zz).2.1 h111)]; done) | (rw [if_neg (fun zz => (won.mp zz).2.2.1 h127)]; done) | (rw [if_neg (fun zz => (won.mp zz).2.2.2 h143)]; done)) ?_
              exact join151 hzp
            · refine k_lload 114 116 C dL_sound_114 rfl 4 rfl ?_
              refine k_lload 116 118 C dL_sound_116 rfl 3 rfl ?_
              refine k_aload_n 118 119 C dL_sound_118 rfl 12 rfl ?_
              refine k_bipush 119 121 C dL_sound_119 rfl (v := 7) rfl ?_
              refine k_callVI 121 124 C [_] [_, _] dL_sound_121 rfl (ct_X3_count hA g ht) mi_X3_count ml_L_9 im_X3_count se_X3_count ci_X3 (IsArm.o ‹_›) rfl rfl ⟨Nat.le_of_ble_eq_true rfl, Nat.le_of_ble_eq_true rfl⟩ (Nat.le_of_ble_eq_true rfl) (Nat.zero_le _) (Nat.zero_le _) (fun r121 V121 p121 => ?_)
              obtain ⟨rfl, rfl⟩ := And.intro p121.1.symm p121.2
              refine k_rwI cCnt_7 ?_
              refine k_i2l 124 125 C dL_sound_124 rfl  ?_
              refine k_lmul 125 126 C dL_sound_125 rfl  ?_
              refine k_lcmp_gt 126 127 150 130 C dL_sound_126 rfl dL_sound_127 (by decide) rfl (fun h127 => ?_) (fun h127 => ?_)
              · refine k_iconst 150 151 C dL_sound_150 rfl (v := 0) rfl ?_
                refine k_perm [0, 1, 2, 3, 4, 6, 7, 8, 9, 5, 10, 11, 12, 13, 14] (L' := [(18, _), (16, _), (14, _), (12, _), (10, _), (8, _), (7, _), (6, _), (5, _), (9, _), (3, _), (4, _), (0, _), (1, _), (2, _)]) rfl ?_
                refine k_rwI (y := if onB S (kdr S zd) (nI zp) = true then 1 else 0) (by first | (rw [if_pos (won.mpr ⟨h104, h111, h127, h143⟩)]; done) | (rw [if_neg (fun zz => (won.mp zz).1 h104)]; done) | (rw [if_neg (fun zz => (won.mp zz).2.1 h111)]; done) | (rw [if_neg (fun zz => (won.mp zz).2.2.1 h127)]; done) | (rw [if_neg (fun zz => (won.mp zz).2.2.2 h143)]; done)) ?_
                exact join151 hzp
              · refine k_lload 130 132 C dL_sound_130 rfl 2 rfl ?_
                refine k_lload 132 134 C dL_sound_132 rfl 1 rfl ?_
                refine k_aload_n 134 135 C dL_sound_134 rfl 12 rfl ?_
                refine k_bipush 135 137 C dL_sound_135 rfl (v := 8) rfl ?_
                refine k_callVI 137 140 C [_] [_, _] dL_sound_137 rfl (ct_X3_count hA g ht) mi_X3_count ml_L_9 im_X3_count se_X3_count ci_X3 (IsArm.o ‹_›) rfl rfl ⟨Nat.le_of_ble_eq_true rfl, Nat.le_of_ble_eq_true rfl⟩ (Nat.le_of_ble_eq_true rfl) (Nat.zero_le _) (Nat.zero_le _) (fun r137 V137 p137 => ?_)
                obtain ⟨rfl, rfl⟩ := And.intro p137.1.symm p137.2
                refine k_rwI cCnt_8 ?_
                refine k_i2l 140 141 C dL_sound_140 rfl  ?_
                refine k_lmul 141 142 C dL_sound_141 rfl  ?_
                refine k_lcmp_gt 142 143 150 146 C dL_sound_142 rfl dL_sound_143 (by decide) rfl (fun h143 => ?_) (fun h143 => ?_)
                · refine k_iconst 150 151 C dL_sound_150 rfl (v := 0) rfl ?_
                  refine k_perm [0, 1, 2, 3, 4, 6, 7, 8, 9, 5, 10, 11, 12, 13, 14] (L' := [(18, _), (16, _), (14, _), (12, _), (10, _), (8, _), (7, _), (6, _), (5, _), (9, _), (3, _), (4, _), (0, _), (1, _), (2, _)]) rfl ?_
                  refine k_rwI (y := if onB S (kdr S zd) (nI zp) = true then 1 else 0) (by first | (rw [if_pos (won.mpr ⟨h104, h111, h127, h143⟩)]; done) | (rw [if_neg (fun zz => (won.mp zz).1 h104)]; done) | (rw [if_neg (fun zz => (won.mp zz).2.1 h111)]; done) | (rw [if_neg (fun zz => (won.mp zz).2.2.1 h127)]; done) | (rw [if_neg (fun zz => (won.mp zz).2.2.2 h143)]; done)) ?_
                  exact join151 hzp
                · refine k_iconst 146 147 C dL_sound_146 rfl (v := 1) rfl ?_
                  refine k_goto 147 151 C dL_sound_147 (by decide) ?_
                  refine k_perm [0, 1, 2, 3, 4, 6, 7, 8, 9, 5, 10, 11, 12, 13, 14] (L' := [(18, _), (16, _), (14, _), (12, _), (10, _), (8, _), (7, _), (6, _), (5, _), (9, _), (3, _), (4, _), (0, _), (1, _), (2, _)]) rfl ?_
                  refine k_rwI (y := if onB S (kdr S zd) (nI zp) = true then 1 else 0) (by first | (rw [if_pos (won.mpr ⟨h104, h111, h127, h143⟩)]; done) | (rw [if_neg (fun zz => (won.mp zz).1 h104)]; done) | (rw [if_neg (fun zz => (won.mp zz).2.1 h111)]; done) | (rw [if_neg (fun zz => (won.mp zz).2.2.1 h127)]; done) | (rw [if_neg (fun zz => (won.mp zz).2.2.2 h143)]; done)) ?_
                  exact join151 hzp
      refine k_iconst 28 29 C dL_sound_28 rfl (v := 0) rfl ?_
      refine k_istore 29 31 C [(5, _), (4, _), (3, _), (2, _), (0, _), (1, _)] dL_sound_29 rfl (by decide) rfl ?_
      refine k_iconst 31 32 C dL_sound_31 rfl (v := 0) rfl ?_
      refine k_istore 32 34 C [(6, _), (5, _), (4, _), (3, _), (2, _), (0, _), (1, _)] dL_sound_32 rfl (by decide) rfl ?_
      refine k_iconst 34 35 C dL_sound_34 rfl (v := 0) rfl ?_
      refine k_istore 35 37 C [(7, _), (6, _), (5, _), (4, _), (3, _), (2, _), (0, _), (1, _)] dL_sound_35 rfl (by decide) rfl ?_
      refine k_iconst 37 38 C dL_sound_37 rfl (v := 0) rfl ?_
      refine k_istore 38 40 C [(8, _), (7, _), (6, _), (5, _), (4, _), (3, _), (2, _), (0, _), (1, _)] dL_sound_38 rfl (by decide) rfl ?_
      refine k_iconst 40 41 C dL_sound_40 rfl (v := 0) rfl ?_
      refine k_istore 41 43 C [(9, _), (8, _), (7, _), (6, _), (5, _), (4, _), (3, _), (2, _), (0, _), (1, _)] dL_sound_41 rfl (by decide) rfl ?_
      refine k_perm [0, 1, 2, 3, 4, 6, 5, 8, 9, 7] (L' := [(9, _), (8, _), (7, _), (6, _), (5, _), (3, _), (4, _), (0, _), (1, _), (2, _)]) rfl ?_
      exact loop43 _ 0 rfl (Nat.zero_le _)
  refine k_aload_n 0 1 C dL_sound_0 rfl 0 rfl ?_
  refine k_iconst 1 2 C dL_sound_1 rfl (v := 0) rfl ?_
  refine k_callVI 2 5 C [_] [] dL_sound_2 rfl (ct_X3_count hA g ht) mi_X3_count ml_L_9 im_X3_count se_X3_count ci_X3 (IsArm.o ‹_›) rfl rfl ⟨Nat.le_of_ble_eq_true rfl, Nat.le_of_ble_eq_true rfl⟩ (Nat.le_of_ble_eq_true rfl) (Nat.zero_le _) (Nat.zero_le _) (fun r2 V2 p2 => ?_)
  obtain ⟨rfl, rfl⟩ := And.intro p2.1.symm p2.2
  refine k_rwI (y := nI (kn (S))) cCnt_0 ?_
  refine k_istore_n 5 6 C [(1, _), (0, _)] dL_sound_5 rfl (by decide) rfl ?_
  refine k_iconst 6 7 C dL_sound_6 rfl (v := 0) rfl ?_
  refine k_istore_n 7 8 C [(2, _), (1, _), (0, _)] dL_sound_7 rfl (by decide) rfl ?_
  refine k_perm [0, 2, 1] (L' := [(2, _), (0, _), (1, _)]) rfl ?_
  exact loop8 _ 0 rfl (Nat.zero_le _)
