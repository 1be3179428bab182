set_option maxHeartbeats 4000000 in
set_option maxRecDepth 100000 in
theorem law_sharpen {E : gE} {T : gT} {V : gV} {p : Program} {l : Launch} {e : Env} {s : State} {m : MethodId} {args : Array Value} {below : List Frame} {meth : Method} {c : Code} {ret : Option FieldType} {k n : Nat} {Q : State → Prop} (C : Cx E p s m args meth c RL code 14 ret) {b zi : Nat} {a : Nat} {S : Dk} {h : Nat} {H : Nat → Dk} {r0 : Nat} {ρ : Nat → Nat} (hA : IsAll T a) (g : AVp V a S h H r0 ρ) {cs : Nat → Int32} (ht : TC V (a + 29) cs 0) {f : Nat → Int64} (zr : Rel f S) {kk : Nat} (zg : GI S kk) (zh : ∀ i, i < h → GI (H i) kk) (hk : k ≤ room_1.cells) (hn : n ≤ room_1.slots)  (hcont : ∀ V2 : gV, zLS V2 a (kk + 1) → KW E T V2 p l e room_1 s m args below meth c 14 k n Q 1037 [(2, .int (nI zi)), (0, .ref b), (1, .ref a)] []) : KW E T V p l e room_1 s m args below meth c 14 k n Q 825 [(2, .int (nI zi)), (0, .ref b), (1, .ref a)] [] := by
  have ha := hA.a
  have zn6 := zr.n6
  have zh4 := AVp.le g
  refine k_aload_n 825 826 C dL_law_825 rfl 2 rfl ?_
  refine k_bipush 826 828 C dL_law_826 rfl (v := 10) rfl ?_
  refine k_callVI 828 831 C [_] [] dL_law_828 rfl (ct_X3_count hA g ht) mi_X3_count ml_L_9 im_X3_count se_X3_count ci_X3 (IsArm.o ‹_›) rfl rfl ⟨Nat.le_of_ble_eq_true rfl, Nat.le_of_ble_eq_true rfl⟩ (Nat.le_of_ble_eq_true rfl) hk hn (fun r828 V828 p828 => ?_)
  obtain ⟨rfl, rfl⟩ := And.intro p828.1.symm p828.2
  refine k_rwI cCnt_10 ?_
  refine k_istore 831 833 C [(8, _), (2, _), (0, _), (1, _)] dL_law_831 rfl (by decide) rfl ?_
  refine k_aload_n 833 834 C dL_law_833 rfl 3 rfl ?_
  refine k_bipush 834 836 C dL_law_834 rfl (v := 12) rfl ?_
  refine k_callVI 836 839 C [_] [] dL_law_836 rfl (ct_X3_count hA g ht) mi_X3_count ml_L_9 im_X3_count se_X3_count ci_X3 (IsArm.o ‹_›) rfl rfl ⟨Nat.le_of_ble_eq_true rfl, Nat.le_of_ble_eq_true rfl⟩ (Nat.le_of_ble_eq_true rfl) hk hn (fun r836 V836 p836 => ?_)
  obtain ⟨rfl, rfl⟩ := And.intro p836.1.symm p836.2
  refine k_rwI cCnt_12 ?_
  refine k_istore 839 841 C [(9, _), (8, _), (2, _), (0, _), (1, _)] dL_law_839 rfl (by decide) rfl ?_
  refine k_aload_n 841 842 C dL_law_841 rfl 4 rfl ?_
  refine k_callVI 842 845 C [] [] dL_law_842 rfl (ct_X3_sharpen hA g) mi_X3_sharpen ml_L_111 im_X3_sharpen se_X3_sharpen ci_X3 (IsArm.o ‹_›) rfl rfl ⟨Nat.le_of_ble_eq_true rfl, Nat.le_of_ble_eq_true rfl⟩ (Nat.le_of_ble_eq_true rfl) hk hn (fun r842 V842 p842 => ?_)
  by_cases zs6 : kf S 6 = 0
  · obtain ⟨rfl, r0842, ρ842, g842, t842⟩ := sq_no ht p842 (cShp_0 ((shp_c zr).2 zs6))
    refine k_iload 845 847 C dL_law_845 rfl 0 rfl ?_
    refine k_if_ne 847 855 850 C dL_law_847 (by decide) rfl (fun h847 => ?_) (fun h847 => ?_)
    · exact absurd zs6 h847
    · refine k_ldc 850 852 C dL_law_850 rfl kc_L_106 ?_
      refine k_goto 852 857 C dL_law_852 (by decide) ?_
      refine k_icmp_ne 857 902 860 C dL_law_857 (by decide) rfl (fun h857 => ?_) (fun h857 => ?_)
      · exact absurd rfl h857
      · refine k_aload_n 860 861 C dL_law_860 rfl 4 rfl ?_
        refine k_bipush 861 863 C dL_law_861 rfl (v := 10) rfl ?_
        refine k_callVI 863 866 C [_] [] dL_law_863 rfl (ct_X3_count hA g842 t842) mi_X3_count ml_L_9 im_X3_count se_X3_count ci_X3 (IsArm.o ‹_›) rfl rfl ⟨Nat.le_of_ble_eq_true rfl, Nat.le_of_ble_eq_true rfl⟩ (Nat.le_of_ble_eq_true rfl) hk hn (fun r863 V863 p863 => ?_)
        obtain ⟨rfl, rfl⟩ := And.intro p863.1.symm p863.2
        refine k_rwI cCnt_10 ?_
        refine k_iload 866 868 C dL_law_866 rfl 0 rfl ?_
        refine k_if_ne 868 876 871 C dL_law_868 (by decide) rfl (fun h868 => ?_) (fun h868 => ?_)
        · exact absurd zs6 h868
        · refine k_iload 871 873 C dL_law_871 rfl 1 rfl ?_
          refine k_goto 873 877 C dL_law_873 (by decide) ?_
          refine k_icmp_ne 877 902 880 C dL_law_877 (by decide) rfl (fun h877 => ?_) (fun h877 => ?_)
          · exact absurd rfl h877
          · refine k_aload_n 880 881 C dL_law_880 rfl 4 rfl ?_
            refine k_bipush 881 883 C dL_law_881 rfl (v := 12) rfl ?_
            refine k_callVI 883 886 C [_] [] dL_law_883 rfl (ct_X3_count hA g842 t842) mi_X3_count ml_L_9 im_X3_count se_X3_count ci_X3 (IsArm.o ‹_›) rfl rfl ⟨Nat.le_of_ble_eq_true rfl, Nat.le_of_ble_eq_true rfl⟩ (Nat.le_of_ble_eq_true rfl) hk hn (fun r883 V883 p883 => ?_)
            obtain ⟨rfl, rfl⟩ := And.intro p883.1.symm p883.2
            refine k_rwI cCnt_12 ?_
            refine k_iload 886 888 C dL_law_886 rfl 0 rfl ?_
            refine k_if_ne 888 895 891 C dL_law_888 (by decide) rfl (fun h888 => ?_) (fun h888 => ?_)
            · exact absurd zs6 h888
            · refine k_iconst 891 892 C dL_law_891 rfl (v := 0) rfl ?_
              refine k_goto 892 899 C dL_law_892 (by decide) ?_
              refine k_icmp_eq 899 904 902 C dL_law_899 (by decide) rfl (fun h899 => ?_) (fun h899 => ?_)
              · refine k_goto 904 1037 C dL_law_904 (by decide) ?_
                refine k_perm [2, 3, 4] (L' := [(2, _), (0, _), (1, _)]) rfl ?_
                exact hcont _ (zLS.of g842 t842 zg zh (by omega))
              · exact absurd zs6 h899
  · obtain ⟨S1, rfl, ⟨r0842, ρ842, g842, t842⟩, zgS1, e5, e6⟩ := shp_s ht p842 ((shp_c zr).1 zs6) zg
    obtain ⟨fS1, zrS1⟩ := zgS1.1
    have zhS1 := gh_step zh zg zh4
    have z4S1 := (remN_pos h).2 zh4
    refine k_iload 845 847 C dL_law_845 rfl 0 rfl ?_
    refine k_if_ne 847 855 850 C dL_law_847 (by decide) rfl (fun h847 => ?_) (fun h847 => ?_)
    · refine k_iload 855 857 C dL_law_855 rfl 1 rfl ?_
      refine k_icmp_ne 857 902 860 C dL_law_857 (by decide) rfl (fun h857 => ?_) (fun h857 => ?_)
      · exact absurd rfl h857
      · refine k_aload_n 860 861 C dL_law_860 rfl 4 rfl ?_
        refine k_bipush 861 863 C dL_law_861 rfl (v := 10) rfl ?_
        refine k_callVI 863 866 C [_] [] dL_law_863 rfl (ct_X3_count hA g842 t842) mi_X3_count ml_L_9 im_X3_count se_X3_count ci_X3 (IsArm.o ‹_›) rfl rfl ⟨Nat.le_of_ble_eq_true rfl, Nat.le_of_ble_eq_true rfl⟩ (Nat.le_of_ble_eq_true rfl) hk hn (fun r863 V863 p863 => ?_)
        obtain ⟨rfl, rfl⟩ := And.intro p863.1.symm p863.2
        refine k_rwI (cCnt_10.trans e5) ?_
        refine k_iload 866 868 C dL_law_866 rfl 0 rfl ?_
        refine k_if_ne 868 876 871 C dL_law_868 (by decide) rfl (fun h868 => ?_) (fun h868 => ?_)
        · refine k_iconst 876 877 C dL_law_876 rfl (v := 0) rfl ?_
          refine k_icmp_ne 877 902 880 C dL_law_877 (by decide) rfl (fun h877 => ?_) (fun h877 => ?_)
          · exact absurd rfl h877
          · refine k_aload_n 880 881 C dL_law_880 rfl 4 rfl ?_
            refine k_bipush 881 883 C dL_law_881 rfl (v := 12) rfl ?_
            refine k_callVI 883 886 C [_] [] dL_law_883 rfl (ct_X3_count hA g842 t842) mi_X3_count ml_L_9 im_X3_count se_X3_count ci_X3 (IsArm.o ‹_›) rfl rfl ⟨Nat.le_of_ble_eq_true rfl, Nat.le_of_ble_eq_true rfl⟩ (Nat.le_of_ble_eq_true rfl) hk hn (fun r883 V883 p883 => ?_)
            obtain ⟨rfl, rfl⟩ := And.intro p883.1.symm p883.2
            refine k_rwI (cCnt_12.trans e6) ?_
            refine k_iload 886 888 C dL_law_886 rfl 0 rfl ?_
            refine k_if_ne 888 895 891 C dL_law_888 (by decide) rfl (fun h888 => ?_) (fun h888 => ?_)
            · refine k_iload 895 897 C dL_law_895 rfl 0 rfl ?_
              refine k_iconst 897 898 C dL_law_897 rfl (v := 1) rfl ?_
              refine k_isub 898 899 C dL_law_898 rfl  ?_
              refine k_icmp_eq 899 904 902 C dL_law_899 (by decide) rfl (fun h899 => ?_) (fun h899 => ?_)
              · refine k_goto 904 1037 C dL_law_904 (by decide) ?_
                refine k_perm [2, 3, 4] (L' := [(2, _), (0, _), (1, _)]) rfl ?_
                exact hcont _ (zLS.of g842 t842 zgS1 zhS1 (by omega))
              · exact absurd rfl h899
            · exact absurd h888 zs6
        · exact absurd h868 zs6
    · exact absurd h847 zs6
