set_option maxHeartbeats 4000000 in
set_option maxRecDepth 100000 in
theorem law_remove {E : gE} {T : gT} {V : gV} {p : Program} {l : Launch} {e : Env} {s : State} {m : MethodId} {args : Array Value} {below : List Frame} {meth : Method} {c : Code} {ret : Option FieldType} {k n : Nat} {Q : State → Prop} (C : Cx E p s m args meth c RL code 14 ret) {b zi : Nat} {a : Nat} {S : Dk} {h : Nat} {H : Nat → Dk} {r0 : Nat} {ρ : Nat → Nat} (hA : IsAll T a) (g : AVp V a S h H r0 ρ) {cs : Nat → Int32} (ht : TC V (a + 29) cs 0) {f : Nat → Int64} (zr : Rel f S) {kk : Nat} (zg : GI S kk) (zh : ∀ i, i < h → GI (H i) kk) (hk : k ≤ room_1.cells) (hn : n ≤ room_1.slots) {zd : Nat} (hzd : zd < kn S) (hcont : ∀ V2 : gV, zLS V2 a (kk + 1) → KW E T V2 p l e room_1 s m args below meth c 14 k n Q 1037 [(2, .int (nI zi)), (0, .ref b), (1, .ref a)] []) : KW E T V p l e room_1 s m args below meth c 14 k n Q 919 [(5, .int (nI (kn S))), (7, .int (nI zd)), (2, .int (nI zi)), (0, .ref b), (1, .ref a)] [] := by
  have ha := hA.a
  have zn6 := zr.n6
  have zh4 := AVp.le g
  have loop925 : ∀ (f925 : Nat) (ze : Nat), kn S - ze = f925 → (ze ≤ kn S) → KW E T V p l e room_1 s m args below meth c 14 k n Q 925 [(9, .int (nI ze)), (8, .int (fl (hcp S (nI zd) (ze)))), (5, .int (nI (kn S))), (7, .int (nI zd)), (2, .int (nI zi)), (0, .ref b), (1, .ref a)] [] := by
    intro f925
    induction f925 using Nat.strongRecOn with
    | _ f925 ih925 =>
    intro ze hf925 hel
    refine k_iload 925 927 C dL_law_925 rfl 0 rfl ?_
    refine k_iload 927 929 C dL_law_927 rfl 2 rfl ?_
    refine k_icmp_ge 929 962 932 C dL_law_929 (by decide) rfl (fun h929 => ?_) (fun h929 => ?_)
    · obtain rfl : ze = kn S := by have z := (nI_leI (a := kn S) (b := ze) (by omega) (by omega)).mp h929; omega
      refine k_iload 962 964 C dL_law_962 rfl 3 rfl ?_
      refine k_iconst 964 965 C dL_law_964 rfl (v := 1) rfl ?_
      refine k_iadd 965 966 C dL_law_965 rfl  ?_
      refine k_rwI (y := nI (zd + 1)) (nI_add (zd) (1)) ?_
      refine k_iload 966 968 C dL_law_966 rfl 2 rfl ?_
      refine k_icmp_ge 968 983 971 C dL_law_968 (by decide) rfl (fun h968 => ?_) (fun h968 => ?_)
      · have z9 : ¬ zd + 1 < kn S := by have z := (nI_leI (a := kn S) (b := zd + 1) (by omega) (by omega)).mp h968; omega
        refine k_iconst 983 984 C dL_law_983 rfl (v := 0) rfl ?_
        refine k_istore 984 986 C [(9, _), (8, _), (5, _), (7, _), (2, _), (0, _), (1, _)] dL_law_984 rfl (by decide) rfl ?_
        refine k_aload_n 986 987 C dL_law_986 rfl 6 rfl ?_
        refine k_iload 987 989 C dL_law_987 rfl 3 rfl ?_
        refine k_callVI 989 992 C [_] [] dL_law_989 rfl (ct_X3_remove hA g) mi_X3_remove ml_L_67 im_X3_remove se_X3_remove ci_X3 (IsArm.o ‹_›) rfl rfl ⟨Nat.le_of_ble_eq_true rfl, Nat.le_of_ble_eq_true rfl⟩ (Nat.le_of_ble_eq_true rfl) hk hn (fun r989 V989 p989 => ?_)
        by_cases zb : hcp S (nI zd) (kn S) = true
        · obtain ⟨rfl, r0989, ρ989, g989, t989⟩ := sq_no ht p989 (cRem_no zn6 hzd zb)
          refine k_iload 992 994 C dL_law_992 rfl 1 rfl ?_
          refine k_if_eq 994 1002 997 C dL_law_994 (by decide) rfl (fun h994 => ?_) (fun h994 => ?_)
          · exact absurd (h994.symm.trans (fl_t zb)) (by decide)
          · refine k_ldc 997 999 C dL_law_997 rfl kc_L_52 ?_
            refine k_goto 999 1006 C dL_law_999 (by decide) ?_
            refine k_icmp_ne 1006 1035 1009 C dL_law_1006 (by decide) rfl (fun h1006 => ?_) (fun h1006 => ?_)
            · exact absurd rfl h1006
            · refine k_iload 1009 1011 C dL_law_1009 rfl 1 rfl ?_
              refine k_if_ne 1011 1037 1014 C dL_law_1011 (by decide) rfl (fun h1011 => ?_) (fun h1011 => ?_)
              · refine k_perm [4, 5, 6] (L' := [(2, _), (0, _), (1, _)]) rfl ?_
                exact hcont _ (zLS.of g989 t989 zg zh (by omega))
              · exact absurd (h1011.symm.trans (fl_t zb)) (by decide)
        · obtain ⟨S1, rfl, ⟨r0989, ρ989, g989, t989⟩, zgS1, zn1, zn2⟩ := rem_s zr ht p989 hzd (Bool.eq_false_iff.mpr zb) zg
          obtain ⟨fS1, zrS1⟩ := zgS1.1
          have zhS1 := gh_step zh zg zh4
          have z4S1 := (remN_pos h).2 zh4
          refine k_iload 992 994 C dL_law_992 rfl 1 rfl ?_
          refine k_if_eq 994 1002 997 C dL_law_994 (by decide) rfl (fun h994 => ?_) (fun h994 => ?_)
          · refine k_iload 1002 1004 C dL_law_1002 rfl 2 rfl ?_
            refine k_iconst 1004 1005 C dL_law_1004 rfl (v := 1) rfl ?_
            refine k_isub 1005 1006 C dL_law_1005 rfl  ?_
            refine k_rwI (y := nI ((kn (S)) - (1))) (pk_sub (a := kn (S)) (b := 1) (by first | omega | (simp only [hdC, ceC]; omega))) ?_
            refine k_icmp_ne 1006 1035 1009 C dL_law_1006 (by decide) rfl (fun h1006 => ?_) (fun h1006 => ?_)
            · exact absurd rfl h1006
            · refine k_iload 1009 1011 C dL_law_1009 rfl 1 rfl ?_
              refine k_if_ne 1011 1037 1014 C dL_law_1011 (by decide) rfl (fun h1011 => ?_) (fun h1011 => ?_)
              · exact absurd (fl_f (Bool.eq_false_iff.mpr zb)) h1011
              · refine k_iload 1014 1016 C dL_law_1014 rfl 3 rfl ?_
                refine k_iconst 1016 1017 C dL_law_1016 rfl (v := 1) rfl ?_
                refine k_iadd 1017 1018 C dL_law_1017 rfl  ?_
                refine k_rwI (y := nI (zd + 1)) (nI_add (zd) (1)) ?_
                refine k_iload 1018 1020 C dL_law_1018 rfl 2 rfl ?_
                refine k_icmp_ge 1020 1037 1023 C dL_law_1020 (by decide) rfl (fun h1020 => ?_) (fun h1020 => ?_)
                · refine k_perm [4, 5, 6] (L' := [(2, _), (0, _), (1, _)]) rfl ?_
                  exact hcont _ (zLS.of g989 t989 zgS1 zhS1 (by omega))
                · have zx : zd + 1 < kn S := Nat.lt_of_not_le (fun zz => h1020 ((nI_leI (a := kn S) (b := zd + 1) (by omega) (by omega)).mpr zz))
                  have hzd1 : zd < kn S1 := by omega
                  refine k_aload_n 1023 1024 C dL_law_1023 rfl 6 rfl ?_
                  refine k_iload 1024 1026 C dL_law_1024 rfl 3 rfl ?_
                  refine k_iconst 1026 1027 C dL_law_1026 rfl (v := 0) rfl ?_
                  refine k_callVI 1027 1030 C [_, _] [] dL_law_1027 rfl (ct_X3_drawing hA g989 (dr_nice zrS1)) mi_X3_drawing ml_L_15 im_X3_drawing se_X3_drawing ci_X3 (IsArm.o ‹_›) rfl rfl ⟨Nat.le_of_ble_eq_true rfl, Nat.le_of_ble_eq_true rfl⟩ (Nat.le_of_ble_eq_true rfl) hk hn (fun r1027 V1027 p1027 => ?_)
                  obtain ⟨rfl, rfl⟩ := And.intro p1027.1.symm p1027.2
                  refine k_rwI (y := nI (rn (kdr S (zd + 1)))) ((dg_0 zrS1 hzd1).trans (congrArg nI (zn2 zx))) ?_
                  refine k_iload 1030 1032 C dL_law_1030 rfl 0 rfl ?_
                  refine k_icmp_eq 1032 1037 1035 C dL_law_1032 (by decide) rfl (fun h1032 => ?_) (fun h1032 => ?_)
                  · refine k_perm [4, 5, 6] (L' := [(2, _), (0, _), (1, _)]) rfl ?_
                    exact hcont _ (zLS.of g989 t989 zgS1 zhS1 (by omega))
                  · (first | exact absurd rfl h1032 | exact absurd zx z9)
          · exact absurd (fl_f (Bool.eq_false_iff.mpr zb)) h994
      · have z9 : zd + 1 < kn S := Nat.lt_of_not_le (fun zz => h968 ((nI_leI (a := kn S) (b := zd + 1) (by omega) (by omega)).mpr zz))
        refine k_aload_n 971 972 C dL_law_971 rfl 6 rfl ?_
        refine k_iload 972 974 C dL_law_972 rfl 3 rfl ?_
        refine k_iconst 974 975 C dL_law_974 rfl (v := 1) rfl ?_
        refine k_iadd 975 976 C dL_law_975 rfl  ?_
        refine k_rwI (y := nI (zd + 1)) (nI_add (zd) (1)) ?_
        refine k_iconst 976 977 C dL_law_976 rfl (v := 0) rfl ?_
        refine k_callVI 977 980 C [_, _] [] dL_law_977 rfl (ct_X3_drawing hA g (dr_nice zr)) mi_X3_drawing ml_L_15 im_X3_drawing se_X3_drawing ci_X3 (IsArm.o ‹_›) rfl rfl ⟨Nat.le_of_ble_eq_true rfl, Nat.le_of_ble_eq_true rfl⟩ (Nat.le_of_ble_eq_true rfl) hk hn (fun r977 V977 p977 => ?_)
        obtain ⟨rfl, rfl⟩ := And.intro p977.1.symm p977.2
        refine k_rwI (dg_0 zr z9) ?_
        refine k_goto 980 984 C dL_law_980 (by decide) ?_
        refine k_istore 984 986 C [(9, _), (8, _), (5, _), (7, _), (2, _), (0, _), (1, _)] dL_law_984 rfl (by decide) rfl ?_
        refine k_aload_n 986 987 C dL_law_986 rfl 6 rfl ?_
        refine k_iload 987 989 C dL_law_987 rfl 3 rfl ?_
        refine k_callVI 989 992 C [_] [] dL_law_989 rfl (ct_X3_remove hA g) mi_X3_remove ml_L_67 im_X3_remove se_X3_remove ci_X3 (IsArm.o ‹_›) rfl rfl ⟨Nat.le_of_ble_eq_true rfl, Nat.le_of_ble_eq_true rfl⟩ (Nat.le_of_ble_eq_true rfl) hk hn (fun r989 V989 p989 => ?_)
        by_cases zb : hcp S (nI zd) (kn S) = true
        · obtain ⟨rfl, r0989, ρ989, g989, t989⟩ := sq_no ht p989 (cRem_no zn6 hzd zb)
          refine k_iload 992 994 C dL_law_992 rfl 1 rfl ?_
          refine k_if_eq 994 1002 997 C dL_law_994 (by decide) rfl (fun h994 => ?_) (fun h994 => ?_)
          · exact absurd (h994.symm.trans (fl_t zb)) (by decide)
          · refine k_ldc 997 999 C dL_law_997 rfl kc_L_52 ?_
            refine k_goto 999 1006 C dL_law_999 (by decide) ?_
            refine k_icmp_ne 1006 1035 1009 C dL_law_1006 (by decide) rfl (fun h1006 => ?_) (fun h1006 => ?_)
            · exact absurd rfl h1006
            · refine k_iload 1009 1011 C dL_law_1009 rfl 1 rfl ?_
              refine k_if_ne 1011 1037 1014 C dL_law_1011 (by decide) rfl (fun h1011 => ?_) (fun h1011 => ?_)
              · refine k_perm [4, 5, 6] (L' := [(2, _), (0, _), (1, _)]) rfl ?_
                exact hcont _ (zLS.of g989 t989 zg zh (by omega))
              · exact absurd (h1011.symm.trans (fl_t zb)) (by decide)
        · obtain ⟨S1, rfl, ⟨r0989, ρ989, g989, t989⟩, zgS1, zn1, zn2⟩ := rem_s zr ht p989 hzd (Bool.eq_false_iff.mpr zb) zg
          obtain ⟨fS1, zrS1⟩ := zgS1.1
          have zhS1 := gh_step zh zg zh4
          have z4S1 := (remN_pos h).2 zh4
          refine k_iload 992 994 C dL_law_992 rfl 1 rfl ?_
          refine k_if_eq 994 1002 997 C dL_law_994 (by decide) rfl (fun h994 => ?_) (fun h994 => ?_)
          · refine k_iload 1002 1004 C dL_law_1002 rfl 2 rfl ?_
            refine k_iconst 1004 1005 C dL_law_1004 rfl (v := 1) rfl ?_
            refine k_isub 1005 1006 C dL_law_1005 rfl  ?_
            refine k_rwI (y := nI ((kn (S)) - (1))) (pk_sub (a := kn (S)) (b := 1) (by first | omega | (simp only [hdC, ceC]; omega))) ?_
            refine k_icmp_ne 1006 1035 1009 C dL_law_1006 (by decide) rfl (fun h1006 => ?_) (fun h1006 => ?_)
            · exact absurd rfl h1006
            · refine k_iload 1009 1011 C dL_law_1009 rfl 1 rfl ?_
              refine k_if_ne 1011 1037 1014 C dL_law_1011 (by decide) rfl (fun h1011 => ?_) (fun h1011 => ?_)
              · exact absurd (fl_f (Bool.eq_false_iff.mpr zb)) h1011
              · refine k_iload 1014 1016 C dL_law_1014 rfl 3 rfl ?_
                refine k_iconst 1016 1017 C dL_law_1016 rfl (v := 1) rfl ?_
                refine k_iadd 1017 1018 C dL_law_1017 rfl  ?_
                refine k_rwI (y := nI (zd + 1)) (nI_add (zd) (1)) ?_
                refine k_iload 1018 1020 C dL_law_1018 rfl 2 rfl ?_
                refine k_icmp_ge 1020 1037 1023 C dL_law_1020 (by decide) rfl (fun h1020 => ?_) (fun h1020 => ?_)
                · refine k_perm [4, 5, 6] (L' := [(2, _), (0, _), (1, _)]) rfl ?_
                  exact hcont _ (zLS.of g989 t989 zgS1 zhS1 (by omega))
                · have zx : zd + 1 < kn S := Nat.lt_of_not_le (fun zz => h1020 ((nI_leI (a := kn S) (b := zd + 1) (by omega) (by omega)).mpr zz))
                  have hzd1 : zd < kn S1 := by omega
                  refine k_aload_n 1023 1024 C dL_law_1023 rfl 6 rfl ?_
                  refine k_iload 1024 1026 C dL_law_1024 rfl 3 rfl ?_
                  refine k_iconst 1026 1027 C dL_law_1026 rfl (v := 0) rfl ?_
                  refine k_callVI 1027 1030 C [_, _] [] dL_law_1027 rfl (ct_X3_drawing hA g989 (dr_nice zrS1)) mi_X3_drawing ml_L_15 im_X3_drawing se_X3_drawing ci_X3 (IsArm.o ‹_›) rfl rfl ⟨Nat.le_of_ble_eq_true rfl, Nat.le_of_ble_eq_true rfl⟩ (Nat.le_of_ble_eq_true rfl) hk hn (fun r1027 V1027 p1027 => ?_)
                  obtain ⟨rfl, rfl⟩ := And.intro p1027.1.symm p1027.2
                  refine k_rwI (y := nI (rn (kdr S (zd + 1)))) ((dg_0 zrS1 hzd1).trans (congrArg nI (zn2 zx))) ?_
                  refine k_iload 1030 1032 C dL_law_1030 rfl 0 rfl ?_
                  refine k_icmp_eq 1032 1037 1035 C dL_law_1032 (by decide) rfl (fun h1032 => ?_) (fun h1032 => ?_)
                  · refine k_perm [4, 5, 6] (L' := [(2, _), (0, _), (1, _)]) rfl ?_
                    exact hcont _ (zLS.of g989 t989 zgS1 zhS1 (by omega))
                  · (first | exact absurd rfl h1032 | exact absurd zx z9)
          · exact absurd (fl_f (Bool.eq_false_iff.mpr zb)) h994
    · have hze : ze < kn S := Nat.lt_of_not_le (fun zz => h929 ((nI_leI (a := kn S) (b := ze) (by omega) (by omega)).mpr zz))
      refine k_iload 932 934 C dL_law_932 rfl 1 rfl ?_
      refine k_if_ne 934 949 937 C dL_law_934 (by decide) rfl (fun h934 => ?_) (fun h934 => ?_)
      · refine k_iconst 949 950 C dL_law_949 rfl (v := 1) rfl ?_
        refine k_rwI (y := fl (hcp S (nI zd) (ze + 1))) (by first | exact (hs_1 h934).symm | exact (hs_2 zr hzd hze h946).symm) ?_
        refine k_goto 950 954 C dL_law_950 (by decide) ?_
        refine k_istore 954 956 C [(8, _), (9, _), (5, _), (7, _), (2, _), (0, _), (1, _)] dL_law_954 rfl (by decide) rfl ?_
        refine k_iinc 956 959 C [(9, _), (8, _), (5, _), (7, _), (2, _), (0, _), (1, _)] (nI (ze + 1)) dL_law_956 rfl 1 rfl (nI_1 (ze)) (by decide) rfl ?_
        refine k_goto 959 925 C dL_law_959 (by decide) ?_
        exact ih925 (kn S - (ze + 1)) (by omega) (ze + 1) rfl (by omega)
      · refine k_aload_n 937 938 C dL_law_937 rfl 6 rfl ?_
        refine k_iload 938 940 C dL_law_938 rfl 0 rfl ?_
        refine k_iconst 940 941 C dL_law_940 rfl (v := 1) rfl ?_
        refine k_callVI 941 944 C [_, _] [] dL_law_941 rfl (ct_X3_drawing hA g (dr_nice zr)) mi_X3_drawing ml_L_15 im_X3_drawing se_X3_drawing ci_X3 (IsArm.o ‹_›) rfl rfl ⟨Nat.le_of_ble_eq_true rfl, Nat.le_of_ble_eq_true rfl⟩ (Nat.le_of_ble_eq_true rfl) hk hn (fun r941 V941 p941 => ?_)
        obtain ⟨rfl, rfl⟩ := And.intro p941.1.symm p941.2
        refine k_rwI (dg_1 zr hze) ?_
        refine k_iload 944 946 C dL_law_944 rfl 3 rfl ?_
        refine k_icmp_ne 946 953 949 C dL_law_946 (by decide) rfl (fun h946 => ?_) (fun h946 => ?_)
        · refine k_iconst 953 954 C dL_law_953 rfl (v := 0) rfl ?_
          refine k_rwI (y := fl (hcp S (nI zd) (ze + 1))) (hs_3 zr hzd hze h934 h946).symm ?_
          refine k_istore 954 956 C [(8, _), (9, _), (5, _), (7, _), (2, _), (0, _), (1, _)] dL_law_954 rfl (by decide) rfl ?_
          refine k_iinc 956 959 C [(9, _), (8, _), (5, _), (7, _), (2, _), (0, _), (1, _)] (nI (ze + 1)) dL_law_956 rfl 1 rfl (nI_1 (ze)) (by decide) rfl ?_
          refine k_goto 959 925 C dL_law_959 (by decide) ?_
          exact ih925 (kn S - (ze + 1)) (by omega) (ze + 1) rfl (by omega)
        · refine k_iconst 949 950 C dL_law_949 rfl (v := 1) rfl ?_
          refine k_rwI (y := fl (hcp S (nI zd) (ze + 1))) (by first | exact (hs_1 h934).symm | exact (hs_2 zr hzd hze h946).symm) ?_
          refine k_goto 950 954 C dL_law_950 (by decide) ?_
          refine k_istore 954 956 C [(8, _), (9, _), (5, _), (7, _), (2, _), (0, _), (1, _)] dL_law_954 rfl (by decide) rfl ?_
          refine k_iinc 956 959 C [(9, _), (8, _), (5, _), (7, _), (2, _), (0, _), (1, _)] (nI (ze + 1)) dL_law_956 rfl 1 rfl (nI_1 (ze)) (by decide) rfl ?_
          refine k_goto 959 925 C dL_law_959 (by decide) ?_
          exact ih925 (kn S - (ze + 1)) (by omega) (ze + 1) rfl (by omega)
  refine k_iconst 919 920 C dL_law_919 rfl (v := 0) rfl ?_
  refine k_rwI (y := fl (hcp S (nI zd) 0)) rfl ?_
  refine k_istore 920 922 C [(8, _), (5, _), (7, _), (2, _), (0, _), (1, _)] dL_law_920 rfl (by decide) rfl ?_
  refine k_iconst 922 923 C dL_law_922 rfl (v := 0) rfl ?_
  refine k_istore 923 925 C [(9, _), (8, _), (5, _), (7, _), (2, _), (0, _), (1, _)] dL_law_923 rfl (by decide) rfl ?_
  exact loop925 _ 0 rfl (Nat.zero_le _)
