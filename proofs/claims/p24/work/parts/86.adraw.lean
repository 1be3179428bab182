set_option maxHeartbeats 4000000 in
set_option maxRecDepth 100000 in
theorem law_draw {E : gE} {T : gT} {V : gV} {p : Program} {l : Launch} {e : Env} {s : State} {m : MethodId} {args : Array Value} {below : List Frame} {meth : Method} {c : Code} {ret : Option FieldType} {k n : Nat} {Q : State → Prop} (C : Cx E p s m args meth c RL code 14 ret) {b zi : Nat} {a : Nat} {S : Dk} {h : Nat} {H : Nat → Dk} {r0 : Nat} {ρ : Nat → Nat} (hA : IsAll T a) (g : AVp V a S h H r0 ρ) {cs : Nat → Int32} (ht : TC V (a + 29) cs 0) {f : Nat → Int64} (zr : Rel f S) {kk : Nat} (zg : GI S kk) (zh : ∀ i, i < h → GI (H i) kk) (hk : k ≤ room_1.cells) (hn : n ≤ room_1.slots)  (hcont : ∀ V2 : gV, zLS V2 a (kk + 1) → KW E T V2 p l e room_1 s m args below meth c 14 k n Q 1037 [(2, .int (nI zi)), (0, .ref b), (1, .ref a)] []) : KW E T V p l e room_1 s m args below meth c 14 k n Q 134 [(5, .int (nI (kn S))), (2, .int (nI zi)), (0, .ref b), (1, .ref a)] [] := by
  have ha := hA.a
  have zn6 := zr.n6
  have zh4 := AVp.le g
  refine k_aload_n 134 135 C dL_law_134 rfl 3 rfl ?_
  refine k_callVI 135 138 C [] [] dL_law_135 rfl (ct_X3_draw hA g) mi_X3_draw ml_L_103 im_X3_draw se_X3_draw ci_X3 (IsArm.o ‹_›) rfl rfl ⟨Nat.le_of_ble_eq_true rfl, Nat.le_of_ble_eq_true rfl⟩ (Nat.le_of_ble_eq_true rfl) hk hn (fun r135 V135 p135 => ?_)
  by_cases zk6 : kn S < 6
  · obtain ⟨S1, rfl, ⟨r0135, ρ135, g135, t135⟩, zgS1, zn1, kdT⟩ := drw_s ht p135 zk6 zg
    obtain ⟨fS1, zrS1⟩ := zgS1.1
    have zhS1 := gh_step zh zg zh4
    have z4S1 := (remN_pos h).2 zh4
    have hzn : kn S < kn S1 := by omega
    refine k_istore 138 140 C [(8, _), (5, _), (2, _), (0, _), (1, _)] dL_law_138 rfl (by decide) rfl ?_
    refine k_iload 140 142 C dL_law_140 rfl 0 rfl ?_
    refine k_iload 142 144 C dL_law_142 rfl 1 rfl ?_
    refine k_bipush 144 146 C dL_law_144 rfl (v := 6) rfl ?_
    refine k_icmp_ne 146 154 149 C dL_law_146 (by decide) rfl (fun h146 => ?_) (fun h146 => ?_)
    · refine k_iload 154 156 C dL_law_154 rfl 1 rfl ?_
      refine k_icmp_ne 156 184 159 C dL_law_156 (by decide) rfl (fun h156 => ?_) (fun h156 => ?_)
      · exact absurd rfl h156
      · refine k_iload 159 161 C dL_law_159 rfl 0 rfl ?_
        refine k_if_lt 161 186 164 C dL_law_161 (by decide) rfl (fun h161 => ?_) (fun h161 => ?_)
        · exact absurd h161 (nI_pos (by omega))
        · refine k_aload_n 164 165 C dL_law_164 rfl 4 rfl ?_
          refine k_iload 165 167 C dL_law_165 rfl 0 rfl ?_
          refine k_iconst 167 168 C dL_law_167 rfl (v := 0) rfl ?_
          refine k_callVI 168 171 C [_, _] [] dL_law_168 rfl (ct_X3_drawing hA g135 (dr_nice zrS1)) mi_X3_drawing ml_L_15 im_X3_drawing se_X3_drawing ci_X3 (IsArm.o ‹_›) rfl rfl ⟨Nat.le_of_ble_eq_true rfl, Nat.le_of_ble_eq_true rfl⟩ (Nat.le_of_ble_eq_true rfl) hk hn (fun r168 V168 p168 => ?_)
          obtain ⟨rfl, rfl⟩ := And.intro p168.1.symm p168.2
          refine k_rwI (dj_0 zrS1 hzn kdT) ?_
          refine k_if_ne 171 184 174 C dL_law_171 (by decide) rfl (fun h171 => ?_) (fun h171 => ?_)
          · exact absurd rfl h171
          · refine k_aload_n 174 175 C dL_law_174 rfl 4 rfl ?_
            refine k_iload 175 177 C dL_law_175 rfl 0 rfl ?_
            refine k_callVI 177 180 C [_] [] dL_law_177 rfl (ct_X3_why hA g135) mi_X3_why ml_L_46 im_X3_why se_X3_why ci_X3 (IsArm.o ‹_›) rfl rfl ⟨Nat.le_of_ble_eq_true rfl, Nat.le_of_ble_eq_true rfl⟩ (Nat.le_of_ble_eq_true rfl) hk hn (fun r177 V177 p177 => ?_)
            obtain ⟨rfl, r0177, ρ177, g177, t177⟩ := sq_why t135 ⟨p177.1.trans (show cWhy S1 (nI (kn S)) = 1 from (cWhy_is zrS1 hzn).trans (by rw [kdT]; exact if_pos (by decide))), p177.2⟩
            refine k_iconst 180 181 C dL_law_180 rfl (v := 1) rfl ?_
            refine k_icmp_eq 181 186 184 C dL_law_181 (by decide) rfl (fun h181 => ?_) (fun h181 => ?_)
            · refine k_goto 186 1037 C dL_law_186 (by decide) ?_
              refine k_perm [2, 3, 4] (L' := [(2, _), (0, _), (1, _)]) rfl ?_
              exact hcont _ (zLS.of g177 t177 zgS1 zhS1 (by omega))
            · exact absurd rfl h181
    · exact absurd ((nI_eq (a := kn S) (b := 6) (by omega) (by decide)).mp h146) (by omega)
  · obtain ⟨rfl, r0135, ρ135, g135, t135⟩ := sq_no ht p135 (cDrw_no zk6)
    refine k_istore 138 140 C [(8, _), (5, _), (2, _), (0, _), (1, _)] dL_law_138 rfl (by decide) rfl ?_
    refine k_iload 140 142 C dL_law_140 rfl 0 rfl ?_
    refine k_iload 142 144 C dL_law_142 rfl 1 rfl ?_
    refine k_bipush 144 146 C dL_law_144 rfl (v := 6) rfl ?_
    refine k_icmp_ne 146 154 149 C dL_law_146 (by decide) rfl (fun h146 => ?_) (fun h146 => ?_)
    · exact absurd (show nI (kn S) = nI 6 from congrArg nI (by omega)) h146
    · refine k_ldc 149 151 C dL_law_149 rfl kc_L_106 ?_
      refine k_goto 151 156 C dL_law_151 (by decide) ?_
      refine k_icmp_ne 156 184 159 C dL_law_156 (by decide) rfl (fun h156 => ?_) (fun h156 => ?_)
      · exact absurd rfl h156
      · refine k_iload 159 161 C dL_law_159 rfl 0 rfl ?_
        refine k_if_lt 161 186 164 C dL_law_161 (by decide) rfl (fun h161 => ?_) (fun h161 => ?_)
        · refine k_goto 186 1037 C dL_law_186 (by decide) ?_
          refine k_perm [2, 3, 4] (L' := [(2, _), (0, _), (1, _)]) rfl ?_
          exact hcont _ (zLS.of g135 t135 zg zh (by omega))
        · exact absurd (by decide) h161
