set_option maxHeartbeats 4000000 in
set_option maxRecDepth 100000 in
theorem law_copies {E : gE} {T : gT} {V : gV} {p : Program} {l : Launch} {e : Env} {s : State} {m : MethodId} {args : Array Value} {below : List Frame} {meth : Method} {c : Code} {ret : Option FieldType} {k n : Nat} {Q : State → Prop} (C : Cx E p s m args meth c RL code 14 ret) {b zi : Nat} {a : Nat} {S : Dk} {h : Nat} {H : Nat → Dk} {r0 : Nat} {ρ : Nat → Nat} (hA : IsAll T a) (g : AVp V a S h H r0 ρ) {cs : Nat → Int32} (ht : TC V (a + 29) cs 0) {f : Nat → Int64} (zr : Rel f S) {kk : Nat} (zg : GI S kk) (zh : ∀ i, i < h → GI (H i) kk) (hk : k ≤ room_1.cells) (hn : n ≤ room_1.slots) {zd : Nat} {zy : Int32} (hzd : zd < kn S) (hcont : ∀ V2 : gV, zLS V2 a (kk + 1) → KW E T V2 p l e room_1 s m args below meth c 14 k n Q 1037 [(2, .int (nI zi)), (0, .ref b), (1, .ref a)] []) : KW E T V p l e room_1 s m args below meth c 14 k n Q 771 [(4, .int zy), (5, .int (nI (kn S))), (7, .int (nI zd)), (2, .int (nI zi)), (0, .ref b), (1, .ref a)] [] := by
  have ha := hA.a
  have zn6 := zr.n6
  have zh4 := AVp.le g
  refine k_aload_n 771 772 C dL_law_771 rfl 5 rfl ?_
  refine k_iload 772 774 C dL_law_772 rfl 2 rfl ?_
  refine k_callSI 774 777 C [_, _] [] dL_law_774 rfl (ct_L_copies hA g ht zr hzd zg) mi_L_copies ml_L_107 st_L_copies rfl rfl ⟨Nat.le_of_ble_eq_true rfl, Nat.le_of_ble_eq_true rfl⟩ (Nat.le_of_ble_eq_true rfl) hk hn (fun r774 V774 p774 => ?_)
  obtain ⟨rfl, zcp⟩ := p774
  rcases zcp with zcp | zcp
  · obtain ⟨⟨r0774, ρ774, g774⟩, cs774, t774⟩ := zcp
    refine k_if_eq 777 816 780 C dL_law_777 (by decide) rfl (fun h777 => ?_) (fun h777 => ?_)
    · exact absurd h777 (by decide)
    · refine k_aload_n 780 781 C dL_law_780 rfl 5 rfl ?_
      refine k_iconst 781 782 C dL_law_781 rfl (v := 0) rfl ?_
      refine k_callVI 782 785 C [_] [] dL_law_782 rfl (ct_X3_count hA g774 t774) mi_X3_count ml_L_9 im_X3_count se_X3_count ci_X3 (IsArm.o ‹_›) rfl rfl ⟨Nat.le_of_ble_eq_true rfl, Nat.le_of_ble_eq_true rfl⟩ (Nat.le_of_ble_eq_true rfl) hk hn (fun r782 V782 p782 => ?_)
      obtain ⟨rfl, rfl⟩ := And.intro p782.1.symm p782.2
      refine k_rwI (y := nI (kn (S))) cCnt_0 ?_
      refine k_iload 785 787 C dL_law_785 rfl 1 rfl ?_
      refine k_icmp_le 787 1037 790 C dL_law_787 (by decide) rfl (fun h787 => ?_) (fun h787 => ?_)
      · refine k_perm [3, 4, 5] (L' := [(2, _), (0, _), (1, _)]) rfl ?_
        exact hcont _ (zLS.of g774 t774 zg zh (by omega))
      · exact absurd (Int32.le_refl _) h787
  · obtain ⟨S1, ⟨⟨r0774, ρ774, g774⟩, cs774, t774⟩, zgS1, zn1⟩ := zcp
    obtain ⟨f1, zrS1⟩ := zgS1.1
    have zhS1 := gh_step zh zg zh4
    have z4S1 := (remN_pos h).2 zh4
    refine k_if_eq 777 816 780 C dL_law_777 (by decide) rfl (fun h777 => ?_) (fun h777 => ?_)
    · exact absurd h777 (by decide)
    · refine k_aload_n 780 781 C dL_law_780 rfl 5 rfl ?_
      refine k_iconst 781 782 C dL_law_781 rfl (v := 0) rfl ?_
      refine k_callVI 782 785 C [_] [] dL_law_782 rfl (ct_X3_count hA g774 t774) mi_X3_count ml_L_9 im_X3_count se_X3_count ci_X3 (IsArm.o ‹_›) rfl rfl ⟨Nat.le_of_ble_eq_true rfl, Nat.le_of_ble_eq_true rfl⟩ (Nat.le_of_ble_eq_true rfl) hk hn (fun r782 V782 p782 => ?_)
      obtain ⟨rfl, rfl⟩ := And.intro p782.1.symm p782.2
      refine k_rwI (y := nI (kn (S1))) cCnt_0 ?_
      refine k_iload 785 787 C dL_law_785 rfl 1 rfl ?_
      refine k_icmp_le 787 1037 790 C dL_law_787 (by decide) rfl (fun h787 => ?_) (fun h787 => ?_)
      · exact absurd ((nI_leI (a := kn S1) (b := kn S) (by omega) (by omega)).mp h787) (by omega)
      · refine k_iload 790 792 C dL_law_790 rfl 0 rfl ?_
        refine k_iconst 792 793 C dL_law_792 rfl (v := 5) rfl ?_
        refine k_callSI 793 796 C [_, _] [] dL_law_793 rfl (ct_L_low (zm := 5) (by omega) (by omega)) mi_L_low ml_L_100 st_L_low rfl rfl ⟨Nat.le_of_ble_eq_true rfl, Nat.le_of_ble_eq_true rfl⟩ (Nat.le_of_ble_eq_true rfl) hk hn (fun r793 V793 p793 => ?_)
        obtain ⟨rfl, rfl⟩ := And.intro p793.1.symm p793.2
        refine k_if_ne 796 1037 799 C dL_law_796 (by decide) rfl (fun h796 => ?_) (fun h796 => ?_)
        · refine k_perm [3, 4, 5] (L' := [(2, _), (0, _), (1, _)]) rfl ?_
          exact hcont _ (zLS.of g774 t774 zgS1 (fun i hi => (zhS1 i hi).mono (Nat.le_succ kk)) (by omega))
        · refine k_aload_n 799 800 C dL_law_799 rfl 5 rfl ?_
          refine k_callVI 800 803 C [] [] dL_law_800 rfl (ct_X3_undo hA g774) mi_X3_undo ml_L_86 im_X3_undo se_X3_undo ci_X3 (IsArm.o ‹_›) rfl rfl ⟨Nat.le_of_ble_eq_true rfl, Nat.le_of_ble_eq_true rfl⟩ (Nat.le_of_ble_eq_true rfl) hk hn (fun r800 V800 p800 => ?_)
          obtain ⟨rfl, r0800, ρ800, g800, t800⟩ := sq_undo t774 p800
          have zrp := remN_pos h
          refine k_if_lt 803 816 806 C dL_law_803 (by decide) rfl (fun h803 => ?_) (fun h803 => ?_)
          · exact absurd h803 (nI_pos (by omega))
          · refine k_aload_n 806 807 C dL_law_806 rfl 5 rfl ?_
            refine k_iconst 807 808 C dL_law_807 rfl (v := 0) rfl ?_
            refine k_callVI 808 811 C [_] [] dL_law_808 rfl (ct_X3_count hA g800 t800) mi_X3_count ml_L_9 im_X3_count se_X3_count ci_X3 (IsArm.o ‹_›) rfl rfl ⟨Nat.le_of_ble_eq_true rfl, Nat.le_of_ble_eq_true rfl⟩ (Nat.le_of_ble_eq_true rfl) hk hn (fun r808 V808 p808 => ?_)
            obtain ⟨rfl, rfl⟩ := And.intro p808.1.symm p808.2
            refine k_rwI (y := nI (kn (S))) cCnt_0 ?_
            refine k_iload 811 813 C dL_law_811 rfl 1 rfl ?_
            refine k_icmp_eq 813 1037 816 C dL_law_813 (by decide) rfl (fun h813 => ?_) (fun h813 => ?_)
            · refine k_perm [3, 4, 5] (L' := [(2, _), (0, _), (1, _)]) rfl ?_
              exact hcont _ (zLS.of g800 t800 (zg.mono (Nat.le_succ kk)) (fun i hi => (fun i hi => (zhS1 i hi).mono (Nat.le_succ kk)) i (by omega)) (by omega))
            · exact absurd rfl h813
