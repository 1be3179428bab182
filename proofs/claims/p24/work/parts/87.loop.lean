set_option maxHeartbeats 4000000 in
set_option maxRecDepth 100000 in
theorem law_top {E : gE} {T : gT} {V : gV} {p : Program} {l : Launch} {e : Env} {s : State} {m : MethodId} {args : Array Value} {below : List Frame} {meth : Method} {c : Code} {ret : Option FieldType} {k n : Nat} {Q : State → Prop} (C : Cx E p s m args meth c RL code 14 ret) {b L0 a : Nat} {xs : Nat → Int32} (hX : va_X b L0 xs s s.heap) (hb : b < gB E) (hL : L0 ≤ 260) (hA : IsAll T a) (hk : k ≤ room_1.cells) (hn : n ≤ room_1.slots) {zi : Nat} {S : Dk} {h : Nat} {H : Nat → Dk} {r0 : Nat} {ρ : Nat → Nat} (g : AVp V a S h H r0 ρ) {cs : Nat → Int32} (ht : TC V (a + 29) cs 0) {f : Nat → Int64} (zr : Rel f S) (zg : GI S zi) (zh : ∀ i, i < h → GI (H i) zi) (hzi : zi < 60) (hcont : ∀ V2 : gV, zLS V2 a (zi + 1) → KW E T V2 p l e room_1 s m args below meth c 14 k n Q 1037 [(2, .int (nI zi)), (0, .ref b), (1, .ref a)] []) : KW E T V p l e room_1 s m args below meth c 14 k n Q 58 [(2, .int (nI zi)), (0, .ref b), (1, .ref a)] [] := by
  have ha := hA.a
  have zn6 := zr.n6
  have zh4 := AVp.le g
  refine k_aload_n 58 59 C dL_law_58 rfl 1 rfl ?_
  refine k_iconst 59 60 C dL_law_59 rfl (v := 2) rfl ?_
  refine k_iload_n 60 61 C dL_law_60 rfl 0 rfl ?_
  refine k_imul 61 62 C dL_law_61 rfl  ?_
  refine k_rwI (y := nI (2 * zi)) (pk_mul (2) (zi)) ?_
  refine k_callLot 62 65 C (j := 2 * zi) hX hb hL (by omega) dL_law_62 rfl ml_L_96 ⟨(Nat.le_of_ble_eq_true rfl), (Nat.le_of_ble_eq_true rfl)⟩ (Nat.le_of_ble_eq_true rfl) hk hn (fun zx => ?_)
  refine k_istore_n 65 66 C [(3, _), (2, _), (0, _), (1, _)] dL_law_65 rfl (by decide) rfl ?_
  refine k_aload_n 66 67 C dL_law_66 rfl 2 rfl ?_
  refine k_iconst 67 68 C dL_law_67 rfl (v := 2) rfl ?_
  refine k_iload_n 68 69 C dL_law_68 rfl 1 rfl ?_
  refine k_imul 69 70 C dL_law_69 rfl  ?_
  refine k_rwI (y := nI (2 * zi)) (pk_mul (2) (zi)) ?_
  refine k_iconst 70 71 C dL_law_70 rfl (v := 1) rfl ?_
  refine k_iadd 71 72 C dL_law_71 rfl  ?_
  refine k_rwI (y := nI ((2 * zi) + (1))) (nI_add (2 * zi) (1)) ?_
  refine k_callLot 72 75 C (j := 2 * zi + 1) hX hb hL (by omega) dL_law_72 rfl ml_L_96 ⟨(Nat.le_of_ble_eq_true rfl), (Nat.le_of_ble_eq_true rfl)⟩ (Nat.le_of_ble_eq_true rfl) hk hn (fun zy => ?_)
  refine k_istore 75 77 C [(4, _), (3, _), (2, _), (0, _), (1, _)] dL_law_75 rfl (by decide) rfl ?_
  refine k_aload_n 77 78 C dL_law_77 rfl 4 rfl ?_
  refine k_iconst 78 79 C dL_law_78 rfl (v := 0) rfl ?_
  refine k_callVI 79 82 C [_] [] dL_law_79 rfl (ct_X3_count hA g ht) mi_X3_count ml_L_9 im_X3_count se_X3_count ci_X3 (IsArm.o ‹_›) rfl rfl ⟨Nat.le_of_ble_eq_true rfl, Nat.le_of_ble_eq_true rfl⟩ (Nat.le_of_ble_eq_true rfl) hk hn (fun r79 V79 p79 => ?_)
  obtain ⟨rfl, rfl⟩ := And.intro p79.1.symm p79.2
  refine k_rwI (y := nI (kn (S))) cCnt_0 ?_
  refine k_istore 82 84 C [(5, _), (4, _), (3, _), (2, _), (0, _), (1, _)] dL_law_82 rfl (by decide) rfl ?_
  have join108 : ∀ (zhow : Int32), KW E T V p l e room_1 s m args below meth c 14 k n Q 108 [(5, .int (nI (kn S))), (4, .int zy), (3, .int zx), (2, .int (nI zi)), (0, .ref b), (1, .ref a)] [.int zhow] := by
    intro zhow 
    have join127 : ∀ (zd : Nat), (0 < kn S → zd < kn S) → KW E T V p l e room_1 s m args below meth c 14 k n Q 127 [(6, .int zhow), (5, .int (nI (kn S))), (4, .int zy), (2, .int (nI zi)), (0, .ref b), (1, .ref a)] [.int (nI zd)] := by
      intro zd hzdd
      refine k_istore 127 129 C [(7, _), (6, _), (5, _), (4, _), (2, _), (0, _), (1, _)] dL_law_127 rfl (by decide) rfl ?_
      refine k_iload 129 131 C dL_law_129 rfl 1 rfl ?_
      refine k_if_ne 131 189 134 C dL_law_131 (by decide) rfl (fun h131 => ?_) (fun h131 => ?_)
      · refine k_iload 189 191 C dL_law_189 rfl 1 rfl ?_
        refine k_iconst 191 192 C dL_law_191 rfl (v := 5) rfl ?_
        refine k_icmp_ge 192 450 195 C dL_law_192 (by decide) rfl (fun h192 => ?_) (fun h192 => ?_)
        · refine k_iload 450 452 C dL_law_450 rfl 1 rfl ?_
          refine k_bipush 452 454 C dL_law_452 rfl (v := 7) rfl ?_
          refine k_icmp_ge 454 602 457 C dL_law_454 (by decide) rfl (fun h454 => ?_) (fun h454 => ?_)
          · refine k_iload 602 604 C dL_law_602 rfl 1 rfl ?_
            refine k_bipush 604 606 C dL_law_604 rfl (v := 7) rfl ?_
            refine k_icmp_ne 606 759 609 C dL_law_606 (by decide) rfl (fun h606 => ?_) (fun h606 => ?_)
            · refine k_iload 759 761 C dL_law_759 rfl 1 rfl ?_
              refine k_bipush 761 763 C dL_law_761 rfl (v := 12) rfl ?_
              refine k_icmp_ge 763 818 766 C dL_law_763 (by decide) rfl (fun h763 => ?_) (fun h763 => ?_)
              · refine k_iload 818 820 C dL_law_818 rfl 1 rfl ?_
                refine k_bipush 820 822 C dL_law_820 rfl (v := 12) rfl ?_
                refine k_icmp_ne 822 907 825 C dL_law_822 (by decide) rfl (fun h822 => ?_) (fun h822 => ?_)
                · refine k_iload 907 909 C dL_law_907 rfl 1 rfl ?_
                  refine k_bipush 909 911 C dL_law_909 rfl (v := 15) rfl ?_
                  refine k_icmp_ge 911 1037 914 C dL_law_911 (by decide) rfl (fun h911 => ?_) (fun h911 => ?_)
                  · refine k_perm [4, 5, 6] (L' := [(2, _), (0, _), (1, _)]) rfl ?_
                    exact hcont _ (zLS.of g ht zg zh (by omega))
                  · refine k_iload 914 916 C dL_law_914 rfl 2 rfl ?_
                    refine k_if_le 916 1037 919 C dL_law_916 (by decide) rfl (fun h916 => ?_) (fun h916 => ?_)
                    · refine k_perm [4, 5, 6] (L' := [(2, _), (0, _), (1, _)]) rfl ?_
                      exact hcont _ (zLS.of g ht zg zh (by omega))
                    · have hzd : zd < kn S := hzdd (Nat.lt_of_not_le (fun zz => h916 ((nI_leI (a := kn S) (b := 0) (by omega) (by decide)).mpr zz)))
                      refine k_perm [2, 0, 4, 5, 6] (L' := [(5, _), (7, _), (2, _), (0, _), (1, _)]) rfl ?_
                      exact law_remove C hA g ht zr zg zh hk hn hzd hcont
                · refine k_perm [4, 5, 6] (L' := [(2, _), (0, _), (1, _)]) rfl ?_
                  exact law_sharpen C hA g ht zr zg zh hk hn hcont
              · refine k_iload 766 768 C dL_law_766 rfl 2 rfl ?_
                refine k_if_le 768 818 771 C dL_law_768 (by decide) rfl (fun h768 => ?_) (fun h768 => ?_)
                · refine k_iload 818 820 C dL_law_818 rfl 1 rfl ?_
                  refine k_bipush 820 822 C dL_law_820 rfl (v := 12) rfl ?_
                  refine k_icmp_ne 822 907 825 C dL_law_822 (by decide) rfl (fun h822 => ?_) (fun h822 => ?_)
                  · refine k_iload 907 909 C dL_law_907 rfl 1 rfl ?_
                    refine k_bipush 909 911 C dL_law_909 rfl (v := 15) rfl ?_
                    refine k_icmp_ge 911 1037 914 C dL_law_911 (by decide) rfl (fun h911 => ?_) (fun h911 => ?_)
                    · refine k_perm [4, 5, 6] (L' := [(2, _), (0, _), (1, _)]) rfl ?_
                      exact hcont _ (zLS.of g ht zg zh (by omega))
                    · refine k_iload 914 916 C dL_law_914 rfl 2 rfl ?_
                      refine k_if_le 916 1037 919 C dL_law_916 (by decide) rfl (fun h916 => ?_) (fun h916 => ?_)
                      · refine k_perm [4, 5, 6] (L' := [(2, _), (0, _), (1, _)]) rfl ?_
                        exact hcont _ (zLS.of g ht zg zh (by omega))
                      · have hzd : zd < kn S := hzdd (Nat.lt_of_not_le (fun zz => h916 ((nI_leI (a := kn S) (b := 0) (by omega) (by decide)).mpr zz)))
                        refine k_perm [2, 0, 4, 5, 6] (L' := [(5, _), (7, _), (2, _), (0, _), (1, _)]) rfl ?_
                        exact law_remove C hA g ht zr zg zh hk hn hzd hcont
                  · refine k_perm [4, 5, 6] (L' := [(2, _), (0, _), (1, _)]) rfl ?_
                    exact law_sharpen C hA g ht zr zg zh hk hn hcont
                · have hzd : zd < kn S := hzdd (Nat.lt_of_not_le (fun zz => h768 ((nI_leI (a := kn S) (b := 0) (by omega) (by decide)).mpr zz)))
                  refine k_perm [3, 2, 0, 4, 5, 6] (L' := [(4, _), (5, _), (7, _), (2, _), (0, _), (1, _)]) rfl ?_
                  exact law_copies C hA g ht zr zg zh hk hn hzd hcont
            · refine k_perm [3, 4, 5, 6] (L' := [(4, _), (2, _), (0, _), (1, _)]) rfl ?_
              exact law_set C hA g ht zr zg zh hk hn hcont
          · refine k_perm [3, 4, 5, 6] (L' := [(4, _), (2, _), (0, _), (1, _)]) rfl ?_
            exact law_armpiv C hA g ht zr zg zh hk hn hcont
        · refine k_iload 195 197 C dL_law_195 rfl 2 rfl ?_
          refine k_if_le 197 450 200 C dL_law_197 (by decide) rfl (fun h197 => ?_) (fun h197 => ?_)
          · refine k_iload 450 452 C dL_law_450 rfl 1 rfl ?_
            refine k_bipush 452 454 C dL_law_452 rfl (v := 7) rfl ?_
            refine k_icmp_ge 454 602 457 C dL_law_454 (by decide) rfl (fun h454 => ?_) (fun h454 => ?_)
            · refine k_iload 602 604 C dL_law_602 rfl 1 rfl ?_
              refine k_bipush 604 606 C dL_law_604 rfl (v := 7) rfl ?_
              refine k_icmp_ne 606 759 609 C dL_law_606 (by decide) rfl (fun h606 => ?_) (fun h606 => ?_)
              · refine k_iload 759 761 C dL_law_759 rfl 1 rfl ?_
                refine k_bipush 761 763 C dL_law_761 rfl (v := 12) rfl ?_
                refine k_icmp_ge 763 818 766 C dL_law_763 (by decide) rfl (fun h763 => ?_) (fun h763 => ?_)
                · refine k_iload 818 820 C dL_law_818 rfl 1 rfl ?_
                  refine k_bipush 820 822 C dL_law_820 rfl (v := 12) rfl ?_
                  refine k_icmp_ne 822 907 825 C dL_law_822 (by decide) rfl (fun h822 => ?_) (fun h822 => ?_)
                  · refine k_iload 907 909 C dL_law_907 rfl 1 rfl ?_
                    refine k_bipush 909 911 C dL_law_909 rfl (v := 15) rfl ?_
                    refine k_icmp_ge 911 1037 914 C dL_law_911 (by decide) rfl (fun h911 => ?_) (fun h911 => ?_)
                    · refine k_perm [4, 5, 6] (L' := [(2, _), (0, _), (1, _)]) rfl ?_
                      exact hcont _ (zLS.of g ht zg zh (by omega))
                    · refine k_iload 914 916 C dL_law_914 rfl 2 rfl ?_
                      refine k_if_le 916 1037 919 C dL_law_916 (by decide) rfl (fun h916 => ?_) (fun h916 => ?_)
                      · refine k_perm [4, 5, 6] (L' := [(2, _), (0, _), (1, _)]) rfl ?_
                        exact hcont _ (zLS.of g ht zg zh (by omega))
                      · have hzd : zd < kn S := hzdd (Nat.lt_of_not_le (fun zz => h916 ((nI_leI (a := kn S) (b := 0) (by omega) (by decide)).mpr zz)))
                        refine k_perm [2, 0, 4, 5, 6] (L' := [(5, _), (7, _), (2, _), (0, _), (1, _)]) rfl ?_
                        exact law_remove C hA g ht zr zg zh hk hn hzd hcont
                  · refine k_perm [4, 5, 6] (L' := [(2, _), (0, _), (1, _)]) rfl ?_
                    exact law_sharpen C hA g ht zr zg zh hk hn hcont
                · refine k_iload 766 768 C dL_law_766 rfl 2 rfl ?_
                  refine k_if_le 768 818 771 C dL_law_768 (by decide) rfl (fun h768 => ?_) (fun h768 => ?_)
                  · refine k_iload 818 820 C dL_law_818 rfl 1 rfl ?_
                    refine k_bipush 820 822 C dL_law_820 rfl (v := 12) rfl ?_
                    refine k_icmp_ne 822 907 825 C dL_law_822 (by decide) rfl (fun h822 => ?_) (fun h822 => ?_)
                    · refine k_iload 907 909 C dL_law_907 rfl 1 rfl ?_
                      refine k_bipush 909 911 C dL_law_909 rfl (v := 15) rfl ?_
                      refine k_icmp_ge 911 1037 914 C dL_law_911 (by decide) rfl (fun h911 => ?_) (fun h911 => ?_)
                      · refine k_perm [4, 5, 6] (L' := [(2, _), (0, _), (1, _)]) rfl ?_
                        exact hcont _ (zLS.of g ht zg zh (by omega))
                      · refine k_iload 914 916 C dL_law_914 rfl 2 rfl ?_
                        refine k_if_le 916 1037 919 C dL_law_916 (by decide) rfl (fun h916 => ?_) (fun h916 => ?_)
                        · refine k_perm [4, 5, 6] (L' := [(2, _), (0, _), (1, _)]) rfl ?_
                          exact hcont _ (zLS.of g ht zg zh (by omega))
                        · have hzd : zd < kn S := hzdd (Nat.lt_of_not_le (fun zz => h916 ((nI_leI (a := kn S) (b := 0) (by omega) (by decide)).mpr zz)))
                          refine k_perm [2, 0, 4, 5, 6] (L' := [(5, _), (7, _), (2, _), (0, _), (1, _)]) rfl ?_
                          exact law_remove C hA g ht zr zg zh hk hn hzd hcont
                    · refine k_perm [4, 5, 6] (L' := [(2, _), (0, _), (1, _)]) rfl ?_
                      exact law_sharpen C hA g ht zr zg zh hk hn hcont
                  · have hzd : zd < kn S := hzdd (Nat.lt_of_not_le (fun zz => h768 ((nI_leI (a := kn S) (b := 0) (by omega) (by decide)).mpr zz)))
                    refine k_perm [3, 2, 0, 4, 5, 6] (L' := [(4, _), (5, _), (7, _), (2, _), (0, _), (1, _)]) rfl ?_
                    exact law_copies C hA g ht zr zg zh hk hn hzd hcont
              · refine k_perm [3, 4, 5, 6] (L' := [(4, _), (2, _), (0, _), (1, _)]) rfl ?_
                exact law_set C hA g ht zr zg zh hk hn hcont
            · refine k_perm [3, 4, 5, 6] (L' := [(4, _), (2, _), (0, _), (1, _)]) rfl ?_
              exact law_armpiv C hA g ht zr zg zh hk hn hcont
          · have hzd : zd < kn S := hzdd (Nat.lt_of_not_le (fun zz => h197 ((nI_leI (a := kn S) (b := 0) (by omega) (by decide)).mpr zz)))
            refine k_perm [3, 2, 0, 4, 5, 6] (L' := [(4, _), (5, _), (7, _), (2, _), (0, _), (1, _)]) rfl ?_
            exact law_point C hA g ht zr zg zh hk hn hzd hcont
      · refine k_perm [2, 4, 5, 6] (L' := [(5, _), (2, _), (0, _), (1, _)]) rfl ?_
        exact law_draw C hA g ht zr zg zh hk hn hcont
    refine k_istore 108 110 C [(6, _), (5, _), (4, _), (3, _), (2, _), (0, _), (1, _)] dL_law_108 rfl (by decide) rfl ?_
    refine k_iload 110 112 C dL_law_110 rfl 1 rfl ?_
    refine k_if_ne 112 119 115 C dL_law_112 (by decide) rfl (fun h112 => ?_) (fun h112 => ?_)
    · have zk0 : 0 < kn S := Nat.pos_of_ne_zero (fun zz => h112 (by rw [zz]; rfl))
      refine k_iload_n 119 120 C dL_law_119 rfl 3 rfl ?_
      refine k_iconst 120 121 C dL_law_120 rfl (v := 5) rfl ?_
      refine k_ishr 121 122 C dL_law_121 rfl  ?_
      refine k_iload 122 124 C dL_law_122 rfl 1 rfl ?_
      refine k_callSI 124 127 C [_, _] [] dL_law_124 rfl (ct_L_low (zm := kn (S)) (by omega) (by omega)) mi_L_low ml_L_100 st_L_low rfl rfl ⟨Nat.le_of_ble_eq_true rfl, Nat.le_of_ble_eq_true rfl⟩ (Nat.le_of_ble_eq_true rfl) hk hn (fun r124 V124 p124 => ?_)
      obtain ⟨rfl, rfl⟩ := And.intro p124.1.symm p124.2
      refine k_perm [0, 1, 2, 4, 5, 6] (L' := [(6, _), (5, _), (4, _), (2, _), (0, _), (1, _)]) rfl ?_
      exact join127 (lw (zx >>> (5 &&& 31)) (kn S)) (fun z => lw_lt z)
    · skip
      refine k_iconst 115 116 C dL_law_115 rfl (v := 0) rfl ?_
      refine k_goto 116 127 C dL_law_116 (by decide) ?_
      refine k_perm [0, 1, 2, 4, 5, 6] (L' := [(6, _), (5, _), (4, _), (2, _), (0, _), (1, _)]) rfl ?_
      exact join127 0 (fun z => z)
  refine k_iload_n 84 85 C dL_law_84 rfl 3 rfl ?_
  refine k_if_ne 85 92 88 C dL_law_85 (by decide) rfl (fun h85 => ?_) (fun h85 => ?_)
  · refine k_iload_n 92 93 C dL_law_92 rfl 3 rfl ?_
    refine k_bipush 93 95 C dL_law_93 rfl (v := 6) rfl ?_
    refine k_icmp_ge 95 102 98 C dL_law_95 (by decide) rfl (fun h95 => ?_) (fun h95 => ?_)
    · refine k_iload_n 102 103 C dL_law_102 rfl 2 rfl ?_
      refine k_bipush 103 105 C dL_law_103 rfl (v := 16) rfl ?_
      refine k_callSI 105 108 C [_, _] [] dL_law_105 rfl (ct_L_low (zm := 16) (by omega) (by omega)) mi_L_low ml_L_100 st_L_low rfl rfl ⟨Nat.le_of_ble_eq_true rfl, Nat.le_of_ble_eq_true rfl⟩ (Nat.le_of_ble_eq_true rfl) hk hn (fun r105 V105 p105 => ?_)
      obtain ⟨rfl, rfl⟩ := And.intro p105.1.symm p105.2
      exact join108 _
    · refine k_iconst 98 99 C dL_law_98 rfl (v := 1) rfl ?_
      refine k_goto 99 108 C dL_law_99 (by decide) ?_
      exact join108 _
  · refine k_iconst 88 89 C dL_law_88 rfl (v := 0) rfl ?_
    refine k_goto 89 108 C dL_law_89 (by decide) ?_
    exact join108 _
set_option maxHeartbeats 4000000 in
set_option maxRecDepth 100000 in
theorem law_bot {E : gE} {T : gT} {V : gV} {p : Program} {l : Launch} {e : Env} {s : State} {m : MethodId} {args : Array Value} {below : List Frame} {meth : Method} {c : Code} {ret : Option FieldType} {k n : Nat} {Q : State → Prop} (C : Cx E p s m args meth c RL code 14 ret) {b L0 a : Nat} {xs : Nat → Int32} (hX : va_X b L0 xs s s.heap) (hb : b < gB E) (hL : L0 ≤ 260) (hA : IsAll T a) (hk : k ≤ room_1.cells) (hn : n ≤ room_1.slots) {zi zj : Nat} {S : Dk} {h : Nat} {H : Nat → Dk} {r0 : Nat} {ρ : Nat → Nat} (g : AVp V a S h H r0 ρ) {cs : Nat → Int32} (ht : TC V (a + 29) cs 0) {f : Nat → Int64} (zr : Rel f S) (zg : GI S zi) (zh : ∀ i, i < h → GI (H i) zi) (hzi : zi ≤ 60) (hcont : KW E T V p l e room_1 s m args below meth c 14 k n Q 52 [(2, .int (nI (zj + 1))), (0, .ref b), (1, .ref a)] []) : KW E T V p l e room_1 s m args below meth c 14 k n Q 1037 [(2, .int (nI zj)), (0, .ref b), (1, .ref a)] [] := by
  have ha := hA.a
  refine k_aload_n 1037 1038 C dL_law_1037 rfl 2 rfl ?_
  refine k_callSI 1038 1041 C [_] [] dL_law_1038 rfl (ct_L_sound hA g ht zr zg (by omega)) mi_L_sound ml_L_90 st_L_sound rfl rfl ⟨Nat.le_of_ble_eq_true rfl, Nat.le_of_ble_eq_true rfl⟩ (Nat.le_of_ble_eq_true rfl) hk hn (fun r1038 V1038 p1038 => ?_)
  obtain ⟨rfl, rfl⟩ := And.intro p1038.1.symm p1038.2
  refine k_if_ne 1041 1046 1044 C dL_law_1041 (by decide) rfl (fun h1041 => ?_) (fun h1041 => ?_)
  · refine k_iinc 1046 1049 C [(2, _), (0, _), (1, _)] (nI (zj + 1)) dL_law_1046 rfl 0 rfl (nI_1 (zj)) (by decide) rfl ?_
    refine k_goto 1049 52 C dL_law_1049 (by decide) ?_
    exact hcont
  · exact absurd h1041 (by decide)
set_option maxHeartbeats 4000000 in
theorem law_loop {E : gE} {T : gT} {p : Program} {l : Launch} {e : Env} {s : State} {m : MethodId} {args : Array Value} {below : List Frame} {meth : Method} {c : Code} {ret : Option FieldType} {k n : Nat} {Q : State → Prop} (C : Cx E p s m args meth c RL code 14 ret) {b L0 a : Nat} {xs : Nat → Int32} (hX : va_X b L0 xs s s.heap) (hb : b < gB E) (hL : L0 ≤ 260) (hA : IsAll T a) (hk : k ≤ room_1.cells) (hn : n ≤ room_1.slots) (kk0 : ∀ V2 : gV, zLS V2 a 60 → KW E T V2 p l e room_1 s m args below meth c 14 k n Q 1052 [(2, .int (nI 60)), (0, .ref b), (1, .ref a)] []) : ∀ (w zi : Nat) (V : gV), 60 < zi + w → zi ≤ 60 → zLS V a zi → KW E T V p l e room_1 s m args below meth c 14 k n Q 52 [(2, .int (nI zi)), (0, .ref b), (1, .ref a)] []
  | w, zi, V, hw, hi, z => by
    refine k_iload_n 52 53 C dL_law_52 rfl 0 rfl ?_
    refine k_bipush 53 55 C dL_law_53 rfl (v := 60) rfl ?_
    refine k_icmp_ge 55 1052 58 C dL_law_55 (by decide) rfl (fun h55 => ?_) (fun h55 => ?_)
    · obtain rfl : zi = 60 := by have z := (nI_leI (a := 60) (b := zi) (by decide) (by omega)).mp h55; omega
      exact kk0 V z
    · have hzi : zi < 60 := Nat.lt_of_not_le (fun zz => h55 ((nI_leI (a := 60) (b := zi) (by decide) (by omega)).mpr zz))
      cases w with
      | zero => exact absurd hw (by omega)
      | succ w =>
      obtain ⟨S, h, H, ⟨⟨r0, ρ, g⟩, cs, ht⟩, zg, zh⟩ := z
      obtain ⟨f, zr⟩ := zg.1
      refine law_top C hX hb hL hA hk hn g ht zr zg zh hzi (fun V2 z2 => ?_)
      have zz := z2
      obtain ⟨S2, h2, H2, ⟨⟨r2, ρ2, g2⟩, cs2, ht2⟩, zg2, zh2⟩ := z2
      obtain ⟨f2, zr2⟩ := zg2.1
      refine law_bot C hX hb hL hA hk hn g2 ht2 zr2 zg2 zh2 (by omega) ?_
      exact law_loop C hX hb hL hA hk hn kk0 w (zi + 1) V2 (by omega) (by omega) zz
/-! the beginning -/
theorem flt_0 {cs : Nat → Int32} {fa : Int32} {xs ys jn : Nat → Int32} : cFlt (pParse cs 0 fa xs ys jn) 0 = 0 := by
  have z := pp_0 cs fa xs ys jn
  unfold cFlt
  rw [if_neg (by decide), if_neg (by rw [z.1]; decide), if_pos rfl, z.2]
theorem red_0 {S : Dk} {cs : Nat → Int32} {fa : Int32} {xs ys jn : Nat → Int32} : cRed S (pParse cs 0 fa xs ys jn) = (-2000000002, none) := by
  have z := pp_0 cs fa xs ys jn
  unfold cRed
  rw [if_pos (by rw [z.1]; decide)]
theorem sq_red {V V' : gV} {a : Nat} {S : Dk} {h : Nat} {H : Nat → Dk} {cs : Nat → Int32} {n : Nat} {r x : Int32} {c : Int32 × Option Dk} (q : r = c.1 ∧ AfterT V V' a S h H c.2 cs n) (hc : c = (x, none)) : r = x ∧ ∃ r0 ρ, AVp V' a S h H r0 ρ ∧ TC V' (a + 29) cs n := by
  subst hc
  obtain ⟨e1, ⟨r0, ρ, g⟩, t, o⟩ := q
  exact ⟨e1, r0, ρ, g, t⟩
/-! what the launch gives -/
theorem arr_p {s : State} {args : Array Value} {ty : FieldType} (hp : ∀ C, ty ≠ .object C) (h : (Cond.arrayClass ty).before args s = true) : ∃ cA : ClassId, ArrOfT s cA ty ∧ va_RA s cA ty := by
  obtain ⟨c, k, comp, h1, h2, h3⟩ := Cond.arrayClass_spec h
  refine ⟨c, fun n z => ⟨fun k h => (by cases h), k, h2, comp, h3⟩, ?_⟩
  cases ty <;> first | exact h1 | exact absurd rfl (hp _)
theorem arr_o {s : State} {C : String} (h : va_AO C s) : ∃ cA : ClassId, ArrOfT s cA (.object C) ∧ va_RA s cA (.object C) := by
  obtain ⟨comp, c, k, h1, -, h2, h3, h4⟩ := Cond.arrayOver_spec h
  exact ⟨c, fun n z => ⟨fun k h => (by cases h), k, h2, comp, h3⟩, k, comp, h2, h3, h1, h4⟩
theorem u_stat {args : Array Value} {s : State} {tm : Term} {f : Nat → Int32} (harr : (Cond.arrayOf tm .int).before args s = true) (hlen : (Cond.eq (.length tm) (.int 5)).before args s = true) (hel : ∀ j, j < 5 → (Cond.eq (.elem tm (.int (Int32.ofNat j))) (.int (f j))).before args s = true) : ∃ t : Nat, tm.eval args s none [] s = some (.ref t) ∧ va_X t 5 f s s.heap ∧ t < s.heap.size := by
  have hv := va_eqt hlen
  obtain ⟨t0, cell0, ht0, hat, -⟩ := Term.length_spec hv
  have hsz : cell0.slots.size < 2 ^ 31 := by
    have hv2 := hv
    simp only [Term.eval, ht0, hat, Option.bind_eq_bind, Option.bind_some] at hv2
    by_cases hlt : cell0.slots.size < 2147483648
    · exact hlt
    · simp [hlt] at hv2
  obtain ⟨t, ht, cell, h1, h2, h3, h4, h5, h6, -⟩ := va_Tof (N := 5) (f := fun j => .int (f j)) (A := fun _ => False) (by decide) harr hv (fun j hj => va_eqt (hel j hj)) (fun _ _ h => h)
  cases ht0.symm.trans ht
  cases (State.arrayAt?_spec hat).1.symm.trans h1
  have hs5 : cell0.slots.size = 5 := (nI_eq hsz (by decide)).mp (show nI cell0.slots.size = nI 5 from h5)
  exact ⟨t0, ht, ⟨cell0, h1, h2, h3, hs5, h6⟩, (Array.getElem?_eq_some_iff.mp h1).1⟩
theorem tb1 {w : Cond} {i : Nat} (h0 : tables_1_1[i]? = some w) : w ∈ lw_tbl := List.mem_append_right _ (have h := List.mem_of_getElem? h0; List.mem_append_left _ h)
theorem tb2 {w : Cond} {i : Nat} (h0 : tables_1_2[i]? = some w) : w ∈ lw_tbl := List.mem_append_right _ (have h := List.mem_of_getElem? h0; List.mem_append_right _ (List.mem_append_left _ h))
set_option maxHeartbeats 2000000 in
theorem entry_E {s : State} {b : Nat} (hts : ∀ w ∈ lw_tbl, w.before #[Value.ref b] s = true) (hgv : (Jvm.Cond.and given_1 narrow_1).before #[Value.ref b] s = true) : ∃ E : gE, gB E = s.heap.size ∧ va_K E.1 classes (tyl E) s ∧ Stc E s s.heap := by
  have tsG : ∀ w ∈ GW, w.before #[Value.ref b] s = true := fun w h => hts w (gw_tbl w h)
  have hs := flat_of_before _ hgv
  obtain ⟨c0, i0, k0⟩ := u_known (C := RX0) (T := TX0) (N := 12) (n := 12) tsG inGX0 (tsG _ ins_X0)
  obtain ⟨c1, i1, k1⟩ := u_known (C := RX1) (T := TX1) (N := 11) (n := 11) tsG inGX1 (tsG _ ins_X1)
  obtain ⟨c2, i2, k2⟩ := u_known (C := RX2) (T := TX2) (N := 9) (n := 9) tsG inGX2 (tsG _ ins_X2)
  obtain ⟨c3, i3, k3⟩ := u_known (C := RX3) (T := TX3) (N := 4) (n := 4) tsG inGX3 (tsG _ ins_X3)
  obtain ⟨a0, A0⟩ := arr_p (fun _ z => by cases z) (tsG _ ac__int)
  obtain ⟨a1, A1⟩ := arr_p (fun _ z => by cases z) (tsG _ ac__long)
  obtain ⟨a2, A2⟩ := arr_o (C := RX1) (va_AO.of (hts _ (tb1 (i := 23) rfl)))
  obtain ⟨a3, A3⟩ := arr_o (C := RX0) (va_AO.of (hts _ (tb1 (i := 126) rfl)))
  obtain ⟨a4, A4⟩ := arr_p (fun _ z => by cases z) (tsG _ ac__char)
  obtain ⟨a5, A5⟩ := arr_p (fun _ z => by cases z) (tsG _ ac__boolean)
  obtain ⟨t0, x0, y0, z0⟩ := u_stat (args := #[.ref b]) (s := s) (tm := .static "PantographArm" "LEAST_SETTING" "[I") (f := leastv) (hs _ (by decide +kernel)) (hs _ (by decide +kernel)) (fun j hj => by
    have q : j = 0 ∨ j = 1 ∨ j = 2 ∨ j = 3 ∨ j = 4 := by omega
    rcases q with rfl | rfl | rfl | rfl | rfl <;> exact hs _ (by decide +kernel))
  obtain ⟨t1, x1, y1, z1⟩ := u_stat (args := #[.ref b]) (s := s) (tm := .static "PantographArm" "MOST_SETTING" "[I") (f := mostv) (hs _ (by decide +kernel)) (hs _ (by decide +kernel)) (fun j hj => by
    have q : j = 0 ∨ j = 1 ∨ j = 2 ∨ j = 3 ∨ j = 4 := by omega
    rcases q with rfl | rfl | rfl | rfl | rfl <;> exact hs _ (by decide +kernel))
  obtain ⟨t2, x2, y2, z2⟩ := u_stat (args := #[.ref b]) (s := s) (tm := .static "PantographArm" "FIRST_SETTING" "[I") (f := firstv) (hs _ (by decide +kernel)) (hs _ (by decide +kernel)) (fun j hj => by
    have q : j = 0 ∨ j = 1 ∨ j = 2 ∨ j = 3 ∨ j = 4 := by omega
    rcases q with rfl | rfl | rfl | rfl | rfl <;> exact hs _ (by decide +kernel))
  have hA : ∀ q : Nat, q < s.heap.size → ¬ s.heap.size ≤ q := fun q h => Nat.not_le.mpr h
  refine ⟨((fun k => match k with | 0 => c0 | 1 => c1 | 2 => c2 | _ => c3, fun k => match k with | 0 => i0 | 1 => i1 | 2 => i2 | _ => i3), (fun t => match t with | 0 => a0 | 1 => a1 | 2 => a2 | 3 => a3 | 4 => a4 | _ => a5, (s.heap.size, fun t => match t with | 0 => t0 | 1 => t1 | _ => t2))), rfl, ⟨fun k q hq => ?_, fun k q hq => ?_⟩, ⟨?_, y0, z0⟩, ⟨?_, y1, z1⟩, ?_, y2, z2⟩
  · match k, hq with
    | 0, hq => cases hq; exact k0
    | 1, hq => cases hq; exact k1
    | 2, hq => cases hq; exact k2
    | 3, hq => cases hq; exact k3
    | k + 4, hq => simp [classes] at hq
  · match k, hq with
    | 0, hq => cases hq; exact A0
    | 1, hq => cases hq; exact A1
    | 2, hq => cases hq; exact A2
    | 3, hq => cases hq; exact A3
    | 4, hq => cases hq; exact A4
    | 5, hq => cases hq; exact A5
    | k + 6, hq => simp [tyl] at hq
  · exact va_Zof (hts _ (tb2 (i := 4) rfl)) (tsG _ ini_X3) x0 hA
  · exact va_Zof (hts _ (tb2 (i := 6) rfl)) (tsG _ ini_X3) x1 hA
  · exact va_Zof (hts _ (tb1 (i := 21) rfl)) (tsG _ ini_X3) x2 hA
