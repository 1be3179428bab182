/-! what is refused -/
theorem dr_nice {f : Nat → Int64} {S : Dk} (zr : Rel f S) : ∀ j, j < kn S → ¬ lowL (rsc (kdr S j)) (rpt (kdr S j)) 1 ≤ 0 ∧ NiceF (cR32 (kdr S j)) := fun j hj => ⟨(rel_r32 zr hj).2.2, (rel_r32 zr hj).1 ▸ (rel_r32 zr hj).2.1⟩
theorem cCnt_18 {S : Dk} {h zn : Nat} : cCnt S h zn (nI 18) = -2000000001 := by
  unfold cCnt
  rw [if_neg (show ¬ nI 18 = 0 by decide), if_neg (show ¬ nI 18 = 1 by decide), if_neg (show ¬ nI 18 = 2 by decide), if_neg (show ¬ nI 18 = 3 by decide), if_neg (show ¬ nI 18 = 4 by decide), if_neg (show ¬ nI 18 = 5 by decide), if_neg (show ¬ nI 18 = 6 by decide), if_neg (show ¬ nI 18 = 7 by decide), if_neg (show ¬ nI 18 = 8 by decide), if_neg (show ¬ nI 18 = 9 by decide), if_neg (show ¬ nI 18 = 10 by decide), if_neg (show ¬ nI 18 = 11 by decide), if_neg (show ¬ nI 18 = 12 by decide), if_neg (show ¬ nI 18 = 13 by decide), if_neg (show ¬ nI 18 = 14 by decide), if_neg (show ¬ nI 18 = 15 by decide), if_neg (show ¬ nI 18 = 16 by decide), if_neg (show ¬ nI 18 = 17 by decide)]
theorem inD_n {S : Dk} : ¬ inD S (nI (kn S)) := fun z => z.2 (Int32.le_refl _)
theorem sq_no {V V' : gV} {a : Nat} {S : Dk} {h : Nat} {H : Nat → Dk} {cs : Nat → Int32} {n : Nat} {r x : Int32} {c : Int32 × Option Dk} (t : TC V (a + 29) cs n) (q : r = c.1 ∧ After V V' a S h H c.2) (hc : c = (x, none)) : r = x ∧ ∃ r0 ρ, AVp V' a S h H r0 ρ ∧ TC V' (a + 29) cs n := by
  subst hc
  obtain ⟨e1, ⟨r0, ρ, g⟩, k, o⟩ := q
  exact ⟨e1, r0, ρ, g, t.same k⟩
theorem sq_why {V V' : gV} {a : Nat} {S : Dk} {h : Nat} {H : Nat → Dk} {cs : Nat → Int32} {n : Nat} {r x : Int32} (t : TC V (a + 29) cs n) (q : r = x ∧ After V V' a S h H none) : r = x ∧ ∃ r0 ρ, AVp V' a S h H r0 ρ ∧ TC V' (a + 29) cs n := by
  obtain ⟨e1, ⟨r0, ρ, g⟩, k, o⟩ := q
  exact ⟨e1, r0, ρ, g, t.same k⟩
theorem sq_typ {V V' : gV} {a : Nat} {S : Dk} {h : Nat} {H : Nat → Dk} {cs : Nat → Int32} {n : Nat} {r x ch : Int32} (q : r = cTyp n ch ∧ AfterT V V' a S h H none (if okR ch 32 126 ∧ n < 100 then va_up cs n ch else cs) (if okR ch 32 126 ∧ n < 100 then n + 1 else n)) (hc : ¬ okR ch 32 126) : r = -2000000001 ∧ ∃ r0 ρ, AVp V' a S h H r0 ρ ∧ TC V' (a + 29) cs n := by
  obtain ⟨e1, z⟩ := q
  rw [if_neg (fun y => hc y.1), if_neg (fun y => hc y.1)] at z
  obtain ⟨⟨r0, ρ, g⟩, t, o⟩ := z
  exact ⟨e1.trans (by unfold cTyp; rw [if_neg hc]), r0, ρ, g, t⟩
theorem sq_flt {V V' : gV} {a : Nat} {S : Dk} {h : Nat} {H : Nat → Dk} {cs : Nat → Int32} {n : Nat} {r x : Int32} (q : r = x ∧ AfterT V V' a S h H none cs n) : r = x ∧ ∃ r0 ρ, AVp V' a S h H r0 ρ ∧ TC V' (a + 29) cs n := by
  obtain ⟨e1, ⟨r0, ρ, g⟩, t, o⟩ := q
  exact ⟨e1, r0, ρ, g, t⟩
set_option maxHeartbeats 4000000 in
set_option maxRecDepth 100000 in
theorem ct_L_refuses {E : gE} {T : gT} {l : Launch} {V : gV} {a : Nat} {S : Dk} {h : Nat} {H : Nat → Dk} {r0 : Nat} {ρ : Nat → Nat} (hA : IsAll T a) (g : AVp V a S h H r0 ρ) {cs : Nat → Int32} (ht : TC V (a + 29) cs 0) {f : Nat → Int64} (zr : Rel f S) : CtI E T l yL_refuses (gw yL_refuses cL_refuses 4 (some .boolean)) { frames := 6, cells := 0, slots := 0, locals := 138 } [.ref a] V (fun (r : Int32) (V' : gV) => r = 1 ∧ ∃ r0' ρ', AVp V' a S h H r0' ρ' ∧ TC V' (a + 29) cs 0) := by
  refine ctI_of (L := [(0, .ref a)]) (by decide) rfl (Nat.le_of_ble_eq_true rfl) rfl (fun p e s m args below meth c C => ?_)
  have ha := hA.a
  refine k_aload_n 0 1 C dL_refuses_0 rfl 0 rfl ?_
  refine k_bipush 1 3 C dL_refuses_1 rfl (v := 16) rfl ?_
  refine k_callVI 3 6 C [_] [] dL_refuses_3 rfl (ct_X3_count hA g ht) mi_X3_count ml_L_9 im_X3_count se_X3_count ci_X3 (IsArm.o ‹_›) rfl rfl ⟨Nat.le_of_ble_eq_true rfl, Nat.le_of_ble_eq_true rfl⟩ (Nat.le_of_ble_eq_true rfl) (Nat.zero_le _) (Nat.zero_le _) (fun r3 V3 p3 => ?_)
  obtain ⟨rfl, rfl⟩ := And.intro p3.1.symm p3.2
  refine k_rwI (y := nI (h)) cCnt_16 ?_
  refine k_istore_n 6 7 C [(1, _), (0, _)] dL_refuses_6 rfl (by decide) rfl ?_
  refine k_aload_n 7 8 C dL_refuses_7 rfl 1 rfl ?_
  refine k_iconst 8 9 C dL_refuses_8 rfl (v := 0) rfl ?_
  refine k_callVI 9 12 C [_] [] dL_refuses_9 rfl (ct_X3_count hA g ht) mi_X3_count ml_L_9 im_X3_count se_X3_count ci_X3 (IsArm.o ‹_›) rfl rfl ⟨Nat.le_of_ble_eq_true rfl, Nat.le_of_ble_eq_true rfl⟩ (Nat.le_of_ble_eq_true rfl) (Nat.zero_le _) (Nat.zero_le _) (fun r9 V9 p9 => ?_)
  obtain ⟨rfl, rfl⟩ := And.intro p9.1.symm p9.2
  refine k_rwI (y := nI (kn (S))) cCnt_0 ?_
  refine k_istore_n 12 13 C [(2, _), (1, _), (0, _)] dL_refuses_12 rfl (by decide) rfl ?_
  refine k_aload_n 13 14 C dL_refuses_13 rfl 2 rfl ?_
  refine k_iconst 14 15 C dL_refuses_14 rfl (v := 0) rfl ?_
  refine k_iconst 15 16 C dL_refuses_15 rfl (v := 1) rfl ?_
  refine k_callVI 16 19 C [_, _] [] dL_refuses_16 rfl (ct_X3_arm hA g) mi_X3_arm ml_L_53 im_X3_arm se_X3_arm ci_X3 (IsArm.o ‹_›) rfl rfl ⟨Nat.le_of_ble_eq_true rfl, Nat.le_of_ble_eq_true rfl⟩ (Nat.le_of_ble_eq_true rfl) (Nat.zero_le _) (Nat.zero_le _) (fun r16 V16 p16 => ?_)
  obtain ⟨rfl, r016, ρ16, g16, t16⟩ := sq_no ht p16 (by unfold cArm; rw [if_neg (by decide +kernel)])
  refine k_ldc 19 21 C dL_refuses_19 rfl kc_L_56 ?_
  refine k_icmp_ne 21 268 24 C dL_refuses_21 (by decide) rfl (fun h21 => ?_) (fun h21 => ?_)
  · exact absurd rfl h21
  · refine k_aload_n 24 25 C dL_refuses_24 rfl 2 rfl ?_
    refine k_iconst 25 26 C dL_refuses_25 rfl (v := 1) rfl ?_
    refine k_bipush 26 28 C dL_refuses_26 rfl (v := 21) rfl ?_
    refine k_callVI 28 31 C [_, _] [] dL_refuses_28 rfl (ct_X3_arm hA g16) mi_X3_arm ml_L_53 im_X3_arm se_X3_arm ci_X3 (IsArm.o ‹_›) rfl rfl ⟨Nat.le_of_ble_eq_true rfl, Nat.le_of_ble_eq_true rfl⟩ (Nat.le_of_ble_eq_true rfl) (Nat.zero_le _) (Nat.zero_le _) (fun r28 V28 p28 => ?_)
    obtain ⟨rfl, r028, ρ28, g28, t28⟩ := sq_no t16 p28 (by unfold cArm; rw [if_neg (by decide +kernel)])
    refine k_ldc 31 33 C dL_refuses_31 rfl kc_L_56 ?_
    refine k_icmp_ne 33 268 36 C dL_refuses_33 (by decide) rfl (fun h33 => ?_) (fun h33 => ?_)
    · exact absurd rfl h33
    · refine k_aload_n 36 37 C dL_refuses_36 rfl 2 rfl ?_
      refine k_iconst 37 38 C dL_refuses_37 rfl (v := (-1)) rfl ?_
      refine k_iconst 38 39 C dL_refuses_38 rfl (v := 0) rfl ?_
      refine k_callVI 39 42 C [_, _] [] dL_refuses_39 rfl (ct_X3_pivot hA g28) mi_X3_pivot ml_L_57 im_X3_pivot se_X3_pivot ci_X3 (IsArm.o ‹_›) rfl rfl ⟨Nat.le_of_ble_eq_true rfl, Nat.le_of_ble_eq_true rfl⟩ (Nat.le_of_ble_eq_true rfl) (Nat.zero_le _) (Nat.zero_le _) (fun r39 V39 p39 => ?_)
      obtain ⟨rfl, r039, ρ39, g39, t39⟩ := sq_no t28 p39 (by unfold cPiv; rw [if_neg (by decide +kernel)])
      refine k_ldc 42 44 C dL_refuses_42 rfl kc_L_56 ?_
      refine k_icmp_ne 44 268 47 C dL_refuses_44 (by decide) rfl (fun h44 => ?_) (fun h44 => ?_)
      · exact absurd rfl h44
      · refine k_aload_n 47 48 C dL_refuses_47 rfl 2 rfl ?_
        refine k_iconst 48 49 C dL_refuses_48 rfl (v := 0) rfl ?_
        refine k_sipush 49 52 C dL_refuses_49 rfl (v := 1001) rfl ?_
        refine k_callVI 52 55 C [_, _] [] dL_refuses_52 rfl (ct_X3_pivot hA g39) mi_X3_pivot ml_L_57 im_X3_pivot se_X3_pivot ci_X3 (IsArm.o ‹_›) rfl rfl ⟨Nat.le_of_ble_eq_true rfl, Nat.le_of_ble_eq_true rfl⟩ (Nat.le_of_ble_eq_true rfl) (Nat.zero_le _) (Nat.zero_le _) (fun r52 V52 p52 => ?_)
        obtain ⟨rfl, r052, ρ52, g52, t52⟩ := sq_no t39 p52 (by unfold cPiv; rw [if_neg (by decide +kernel)])
        refine k_ldc 55 57 C dL_refuses_55 rfl kc_L_56 ?_
        refine k_icmp_ne 57 268 60 C dL_refuses_57 (by decide) rfl (fun h57 => ?_) (fun h57 => ?_)
        · exact absurd rfl h57
        · refine k_aload_n 60 61 C dL_refuses_60 rfl 2 rfl ?_
          refine k_iconst 61 62 C dL_refuses_61 rfl (v := 5) rfl ?_
          refine k_iconst 62 63 C dL_refuses_62 rfl (v := 1) rfl ?_
          refine k_callVI 63 66 C [_, _] [] dL_refuses_63 rfl (ct_X3_set hA g52) mi_X3_set ml_L_60 im_X3_set se_X3_set ci_X3 (IsArm.o ‹_›) rfl rfl ⟨Nat.le_of_ble_eq_true rfl, Nat.le_of_ble_eq_true rfl⟩ (Nat.le_of_ble_eq_true rfl) (Nat.zero_le _) (Nat.zero_le _) (fun r63 V63 p63 => ?_)
          obtain ⟨rfl, r063, ρ63, g63, t63⟩ := sq_no t52 p63 (by unfold cSet; rw [if_neg (by decide +kernel)])
          refine k_ldc 66 68 C dL_refuses_66 rfl kc_L_56 ?_
          refine k_icmp_ne 68 268 71 C dL_refuses_68 (by decide) rfl (fun h68 => ?_) (fun h68 => ?_)
          · exact absurd rfl h68
          · refine k_aload_n 71 72 C dL_refuses_71 rfl 2 rfl ?_
            refine k_iconst 72 73 C dL_refuses_72 rfl (v := 0) rfl ?_
            refine k_iconst 73 74 C dL_refuses_73 rfl (v := 3) rfl ?_
            refine k_callVI 74 77 C [_, _] [] dL_refuses_74 rfl (ct_X3_set hA g63) mi_X3_set ml_L_60 im_X3_set se_X3_set ci_X3 (IsArm.o ‹_›) rfl rfl ⟨Nat.le_of_ble_eq_true rfl, Nat.le_of_ble_eq_true rfl⟩ (Nat.le_of_ble_eq_true rfl) (Nat.zero_le _) (Nat.zero_le _) (fun r74 V74 p74 => ?_)
            obtain ⟨rfl, r074, ρ74, g74, t74⟩ := sq_no t63 p74 (by unfold cSet; rw [if_neg (by decide +kernel)])
            refine k_ldc 77 79 C dL_refuses_77 rfl kc_L_56 ?_
            refine k_icmp_ne 79 268 82 C dL_refuses_79 (by decide) rfl (fun h79 => ?_) (fun h79 => ?_)
            · exact absurd rfl h79
            · refine k_aload_n 82 83 C dL_refuses_82 rfl 2 rfl ?_
              refine k_iconst 83 84 C dL_refuses_83 rfl (v := 1) rfl ?_
              refine k_bipush 84 86 C dL_refuses_84 rfl (v := 51) rfl ?_
              refine k_callVI 86 89 C [_, _] [] dL_refuses_86 rfl (ct_X3_set hA g74) mi_X3_set ml_L_60 im_X3_set se_X3_set ci_X3 (IsArm.o ‹_›) rfl rfl ⟨Nat.le_of_ble_eq_true rfl, Nat.le_of_ble_eq_true rfl⟩ (Nat.le_of_ble_eq_true rfl) (Nat.zero_le _) (Nat.zero_le _) (fun r86 V86 p86 => ?_)
              obtain ⟨rfl, r086, ρ86, g86, t86⟩ := sq_no t74 p86 (by unfold cSet; rw [if_neg (by decide +kernel)])
              refine k_ldc 89 91 C dL_refuses_89 rfl kc_L_56 ?_
              refine k_icmp_ne 91 268 94 C dL_refuses_91 (by decide) rfl (fun h91 => ?_) (fun h91 => ?_)
              · exact absurd rfl h91
              · refine k_aload_n 94 95 C dL_refuses_94 rfl 2 rfl ?_
                refine k_iconst 95 96 C dL_refuses_95 rfl (v := 2) rfl ?_
                refine k_bipush 96 98 C dL_refuses_96 rfl (v := 9) rfl ?_
                refine k_callVI 98 101 C [_, _] [] dL_refuses_98 rfl (ct_X3_set hA g86) mi_X3_set ml_L_60 im_X3_set se_X3_set ci_X3 (IsArm.o ‹_›) rfl rfl ⟨Nat.le_of_ble_eq_true rfl, Nat.le_of_ble_eq_true rfl⟩ (Nat.le_of_ble_eq_true rfl) (Nat.zero_le _) (Nat.zero_le _) (fun r98 V98 p98 => ?_)
                obtain ⟨rfl, r098, ρ98, g98, t98⟩ := sq_no t86 p98 (by unfold cSet; rw [if_neg (by decide +kernel)])
                refine k_ldc 101 103 C dL_refuses_101 rfl kc_L_56 ?_
                refine k_icmp_ne 103 268 106 C dL_refuses_103 (by decide) rfl (fun h103 => ?_) (fun h103 => ?_)
                · exact absurd rfl h103
                · refine k_aload_n 106 107 C dL_refuses_106 rfl 2 rfl ?_
                  refine k_iconst 107 108 C dL_refuses_107 rfl (v := 4) rfl ?_
                  refine k_iconst 108 109 C dL_refuses_108 rfl (v := 0) rfl ?_
                  refine k_callVI 109 112 C [_, _] [] dL_refuses_109 rfl (ct_X3_set hA g98) mi_X3_set ml_L_60 im_X3_set se_X3_set ci_X3 (IsArm.o ‹_›) rfl rfl ⟨Nat.le_of_ble_eq_true rfl, Nat.le_of_ble_eq_true rfl⟩ (Nat.le_of_ble_eq_true rfl) (Nat.zero_le _) (Nat.zero_le _) (fun r109 V109 p109 => ?_)
                  obtain ⟨rfl, r0109, ρ109, g109, t109⟩ := sq_no t98 p109 (by unfold cSet; rw [if_neg (by decide +kernel)])
                  refine k_ldc 112 114 C dL_refuses_112 rfl kc_L_56 ?_
                  refine k_icmp_ne 114 268 117 C dL_refuses_114 (by decide) rfl (fun h114 => ?_) (fun h114 => ?_)
                  · exact absurd rfl h114
                  · refine k_aload_n 117 118 C dL_refuses_117 rfl 2 rfl ?_
                    refine k_bipush 118 120 C dL_refuses_118 rfl (v := 18) rfl ?_
                    refine k_callVI 120 123 C [_] [] dL_refuses_120 rfl (ct_X3_count hA g109 t109) mi_X3_count ml_L_9 im_X3_count se_X3_count ci_X3 (IsArm.o ‹_›) rfl rfl ⟨Nat.le_of_ble_eq_true rfl, Nat.le_of_ble_eq_true rfl⟩ (Nat.le_of_ble_eq_true rfl) (Nat.zero_le _) (Nat.zero_le _) (fun r120 V120 p120 => ?_)
                    obtain ⟨rfl, rfl⟩ := And.intro p120.1.symm p120.2
                    refine k_rwI (y := -2000000001) cCnt_18 ?_
                    refine k_ldc 123 125 C dL_refuses_123 rfl kc_L_56 ?_
                    refine k_icmp_ne 125 268 128 C dL_refuses_125 (by decide) rfl (fun h125 => ?_) (fun h125 => ?_)
                    · exact absurd rfl h125
                    · refine k_aload_n 128 129 C dL_refuses_128 rfl 2 rfl ?_
                      refine k_iload_n 129 130 C dL_refuses_129 rfl 0 rfl ?_
                      refine k_iconst 130 131 C dL_refuses_130 rfl (v := 0) rfl ?_
                      refine k_iconst 131 132 C dL_refuses_131 rfl (v := 0) rfl ?_
                      refine k_iconst 132 133 C dL_refuses_132 rfl (v := 0) rfl ?_
                      refine k_callVI 133 136 C [_, _, _, _] [] dL_refuses_133 rfl (ct_X3_point hA g109) mi_X3_point ml_L_63 im_X3_point se_X3_point ci_X3 (IsArm.o ‹_›) rfl rfl ⟨Nat.le_of_ble_eq_true rfl, Nat.le_of_ble_eq_true rfl⟩ (Nat.le_of_ble_eq_true rfl) (Nat.zero_le _) (Nat.zero_le _) (fun r133 V133 p133 => ?_)
                      obtain ⟨rfl, r0133, ρ133, g133, t133⟩ := sq_no t109 p133 (by unfold cPnt; rw [if_pos (fun zz => inD_n zz.1)])
                      refine k_ldc 136 138 C dL_refuses_136 rfl kc_L_56 ?_
                      refine k_icmp_ne 138 268 141 C dL_refuses_138 (by decide) rfl (fun h138 => ?_) (fun h138 => ?_)
                      · exact absurd rfl h138
                      · refine k_aload_n 141 142 C dL_refuses_141 rfl 2 rfl ?_
                        refine k_iload_n 142 143 C dL_refuses_142 rfl 0 rfl ?_
                        refine k_callVI 143 146 C [_] [] dL_refuses_143 rfl (ct_X3_remove hA g133) mi_X3_remove ml_L_67 im_X3_remove se_X3_remove ci_X3 (IsArm.o ‹_›) rfl rfl ⟨Nat.le_of_ble_eq_true rfl, Nat.le_of_ble_eq_true rfl⟩ (Nat.le_of_ble_eq_true rfl) (Nat.zero_le _) (Nat.zero_le _) (fun r143 V143 p143 => ?_)
                        obtain ⟨rfl, r0143, ρ143, g143, t143⟩ := sq_no t133 p143 (by unfold cRem; rw [if_pos inD_n])
                        refine k_ldc 146 148 C dL_refuses_146 rfl kc_L_56 ?_
                        refine k_icmp_ne 148 268 151 C dL_refuses_148 (by decide) rfl (fun h148 => ?_) (fun h148 => ?_)
                        · exact absurd rfl h148
                        · refine k_aload_n 151 152 C dL_refuses_151 rfl 2 rfl ?_
                          refine k_iconst 152 153 C dL_refuses_152 rfl (v := (-1)) rfl ?_
                          refine k_callVI 153 156 C [_] [] dL_refuses_153 rfl (ct_X3_copy hA g143) mi_X3_copy ml_L_49 im_X3_copy se_X3_copy ci_X3 (IsArm.o ‹_›) rfl rfl ⟨Nat.le_of_ble_eq_true rfl, Nat.le_of_ble_eq_true rfl⟩ (Nat.le_of_ble_eq_true rfl) (Nat.zero_le _) (Nat.zero_le _) (fun r153 V153 p153 => ?_)
                          obtain ⟨rfl, r0153, ρ153, g153, t153⟩ := sq_no t143 p153 (by unfold cCpy; rw [if_pos (fun zz => zz.1 (by decide))])
                          refine k_ldc 156 158 C dL_refuses_156 rfl kc_L_56 ?_
                          refine k_icmp_ne 158 268 161 C dL_refuses_158 (by decide) rfl (fun h158 => ?_) (fun h158 => ?_)
                          · exact absurd rfl h158
                          · refine k_aload_n 161 162 C dL_refuses_161 rfl 2 rfl ?_
                            refine k_iload_n 162 163 C dL_refuses_162 rfl 0 rfl ?_
                            refine k_callVI 163 166 C [_] [] dL_refuses_163 rfl (ct_X3_why hA g153) mi_X3_why ml_L_46 im_X3_why se_X3_why ci_X3 (IsArm.o ‹_›) rfl rfl ⟨Nat.le_of_ble_eq_true rfl, Nat.le_of_ble_eq_true rfl⟩ (Nat.le_of_ble_eq_true rfl) (Nat.zero_le _) (Nat.zero_le _) (fun r163 V163 p163 => ?_)
                            obtain ⟨rfl, r0163, ρ163, g163, t163⟩ := sq_why t153 ⟨p163.1.trans (by unfold cWhy; rw [if_neg inD_n]), p163.2⟩
                            refine k_ldc 166 168 C dL_refuses_166 rfl kc_L_56 ?_
                            refine k_icmp_ne 168 268 171 C dL_refuses_168 (by decide) rfl (fun h168 => ?_) (fun h168 => ?_)
                            · exact absurd rfl h168
                            · refine k_aload_n 171 172 C dL_refuses_171 rfl 2 rfl ?_
                              refine k_iload_n 172 173 C dL_refuses_172 rfl 0 rfl ?_
                              refine k_iconst 173 174 C dL_refuses_173 rfl (v := 0) rfl ?_
                              refine k_callVI 174 177 C [_, _] [] dL_refuses_174 rfl (ct_X3_drawing hA g163 (dr_nice zr)) mi_X3_drawing ml_L_15 im_X3_drawing se_X3_drawing ci_X3 (IsArm.o ‹_›) rfl rfl ⟨Nat.le_of_ble_eq_true rfl, Nat.le_of_ble_eq_true rfl⟩ (Nat.le_of_ble_eq_true rfl) (Nat.zero_le _) (Nat.zero_le _) (fun r174 V174 p174 => ?_)
                              obtain ⟨rfl, rfl⟩ := And.intro p174.1.symm p174.2
                              refine k_rwI (y := -2000000001) (by unfold cDrg; rw [if_neg inD_n]) ?_
                              refine k_ldc 177 179 C dL_refuses_177 rfl kc_L_56 ?_
                              refine k_icmp_ne 179 268 182 C dL_refuses_179 (by decide) rfl (fun h179 => ?_) (fun h179 => ?_)
                              · exact absurd rfl h179
                              · refine k_aload_n 182 183 C dL_refuses_182 rfl 2 rfl ?_
                                refine k_iload_n 183 184 C dL_refuses_183 rfl 0 rfl ?_
                                refine k_iconst 184 185 C dL_refuses_184 rfl (v := 0) rfl ?_
                                refine k_callVI 185 188 C [_, _] [] dL_refuses_185 rfl (ct_X3_ratio hA g163) mi_X3_ratio ml_L_42 im_X3_ratio se_X3_ratio ci_X3 (IsArm.o ‹_›) rfl rfl ⟨Nat.le_of_ble_eq_true rfl, Nat.le_of_ble_eq_true rfl⟩ (Nat.le_of_ble_eq_true rfl) (Nat.zero_le _) (Nat.zero_le _) (fun r185 V185 p185 => ?_)
                                obtain ⟨rfl, rfl⟩ := And.intro p185.1.symm p185.2
                                refine k_rwI (y := -2000000001) (by unfold cRat; rw [if_neg (fun zz => inD_n zz.1)]) ?_
                                refine k_ldc 188 190 C dL_refuses_188 rfl kc_L_56 ?_
                                refine k_icmp_ne 190 268 193 C dL_refuses_190 (by decide) rfl (fun h190 => ?_) (fun h190 => ?_)
                                · exact absurd rfl h190
                                · refine k_aload_n 193 194 C dL_refuses_193 rfl 2 rfl ?_
                                  refine k_iload_n 194 195 C dL_refuses_194 rfl 0 rfl ?_
                                  refine k_iconst 195 196 C dL_refuses_195 rfl (v := 0) rfl ?_
                                  refine k_iconst 196 197 C dL_refuses_196 rfl (v := 0) rfl ?_
                                  refine k_callVL 197 200 C [_, _, _] [] dL_refuses_197 rfl (ct_X3_pointInfo hA g163) mi_X3_pointInfo ml_L_19 im_X3_pointInfo se_X3_pointInfo ci_X3 (IsArm.o ‹_›) rfl rfl ⟨Nat.le_of_ble_eq_true rfl, Nat.le_of_ble_eq_true rfl⟩ (Nat.le_of_ble_eq_true rfl) (Nat.zero_le _) (Nat.zero_le _) (fun r197 V197 p197 => ?_)
                                  obtain ⟨rfl, rfl⟩ := And.intro p197.1.symm p197.2
                                  refine k_rwL (y := -2000000001) (by unfold cPnI; rw [if_neg (fun zz => inD_n zz.1)]) ?_
                                  refine k_ldc2 200 203 C dL_refuses_200 rfl kl_L_70 ?_
                                  refine k_lcmp_ne 203 204 268 207 C dL_refuses_203 rfl dL_refuses_204 (by decide) rfl (fun h204 => ?_) (fun h204 => ?_)
                                  · exact absurd rfl h204
                                  · refine k_aload_n 207 208 C dL_refuses_207 rfl 2 rfl ?_
                                    refine k_iload_n 208 209 C dL_refuses_208 rfl 0 rfl ?_
                                    refine k_iconst 209 210 C dL_refuses_209 rfl (v := 0) rfl ?_
                                    refine k_iconst 210 211 C dL_refuses_210 rfl (v := 0) rfl ?_
                                    refine k_callVL 211 214 C [_, _, _] [] dL_refuses_211 rfl (ct_X3_atOnce hA g163) mi_X3_atOnce ml_L_72 im_X3_atOnce se_X3_atOnce ci_X3 (IsArm.o ‹_›) rfl rfl ⟨Nat.le_of_ble_eq_true rfl, Nat.le_of_ble_eq_true rfl⟩ (Nat.le_of_ble_eq_true rfl) (Nat.zero_le _) (Nat.zero_le _) (fun r211 V211 p211 => ?_)
                                    obtain ⟨rfl, rfl⟩ := And.intro p211.1.symm p211.2
                                    refine k_rwL (y := -2000000001) (by unfold cAtO; rw [if_neg (fun zz => inD_n zz.1.1)]) ?_
                                    refine k_ldc2 214 217 C dL_refuses_214 rfl kl_L_70 ?_
                                    refine k_lcmp_ne 217 218 268 221 C dL_refuses_217 rfl dL_refuses_218 (by decide) rfl (fun h218 => ?_) (fun h218 => ?_)
                                    · exact absurd rfl h218
                                    · refine k_aload_n 221 222 C dL_refuses_221 rfl 2 rfl ?_
                                      refine k_iload_n 222 223 C dL_refuses_222 rfl 0 rfl ?_
                                      refine k_iconst 223 224 C dL_refuses_223 rfl (v := 0) rfl ?_
                                      refine k_callVI 224 227 C [_, _] [] dL_refuses_224 rfl (ct_X3_alike hA g163) mi_X3_alike ml_L_36 im_X3_alike se_X3_alike ci_X3 (IsArm.o ‹_›) rfl rfl ⟨Nat.le_of_ble_eq_true rfl, Nat.le_of_ble_eq_true rfl⟩ (Nat.le_of_ble_eq_true rfl) (Nat.zero_le _) (Nat.zero_le _) (fun r224 V224 p224 => ?_)
                                      obtain ⟨rfl, rfl⟩ := And.intro p224.1.symm p224.2
                                      refine k_rwI (y := -2000000001) (by unfold cAlk; rw [if_neg (fun zz => inD_n zz.1)]) ?_
                                      refine k_ldc 227 229 C dL_refuses_227 rfl kc_L_56 ?_
                                      refine k_icmp_ne 229 268 232 C dL_refuses_229 (by decide) rfl (fun h229 => ?_) (fun h229 => ?_)
                                      · exact absurd rfl h229
                                      · refine k_aload_n 232 233 C dL_refuses_232 rfl 2 rfl ?_
                                        refine k_iconst 233 234 C dL_refuses_233 rfl (v := 0) rfl ?_
                                        refine k_iload_n 234 235 C dL_refuses_234 rfl 0 rfl ?_
                                        refine k_callVI 235 238 C [_, _] [] dL_refuses_235 rfl (ct_X3_armFor hA g163) mi_X3_armFor ml_L_39 im_X3_armFor se_X3_armFor ci_X3 (IsArm.o ‹_›) rfl rfl ⟨Nat.le_of_ble_eq_true rfl, Nat.le_of_ble_eq_true rfl⟩ (Nat.le_of_ble_eq_true rfl) (Nat.zero_le _) (Nat.zero_le _) (fun r235 V235 p235 => ?_)
                                        obtain ⟨rfl, rfl⟩ := And.intro p235.1.symm p235.2
                                        refine k_rwI (y := -2000000001) (by unfold cArF; rw [if_neg (fun zz => inD_n zz.2)]) ?_
                                        refine k_ldc 238 240 C dL_refuses_238 rfl kc_L_56 ?_
                                        refine k_icmp_ne 240 268 243 C dL_refuses_240 (by decide) rfl (fun h240 => ?_) (fun h240 => ?_)
                                        · exact absurd rfl h240
                                        · refine k_aload_n 243 244 C dL_refuses_243 rfl 2 rfl ?_
                                          refine k_bipush 244 246 C dL_refuses_244 rfl (v := 31) rfl ?_
                                          refine k_callVI 246 249 C [_] [] dL_refuses_246 rfl (ct_X3_type hA g163 t163) mi_X3_type ml_L_75 im_X3_type se_X3_type ci_X3 (IsArm.o ‹_›) rfl rfl ⟨Nat.le_of_ble_eq_true rfl, Nat.le_of_ble_eq_true rfl⟩ (Nat.le_of_ble_eq_true rfl) (Nat.zero_le _) (Nat.zero_le _) (fun r246 V246 p246 => ?_)
                                          obtain ⟨rfl, r0246, ρ246, g246, t246⟩ := sq_typ (x := 0) p246 (by decide)
                                          refine k_ldc 249 251 C dL_refuses_249 rfl kc_L_56 ?_
                                          refine k_icmp_ne 251 268 254 C dL_refuses_251 (by decide) rfl (fun h251 => ?_) (fun h251 => ?_)
                                          · exact absurd rfl h251
                                          · refine k_aload_n 254 255 C dL_refuses_254 rfl 2 rfl ?_
                                            refine k_iconst 255 256 C dL_refuses_255 rfl (v := 2) rfl ?_
                                            refine k_callVI 256 259 C [_] [] dL_refuses_256 rfl (ct_X3_fault hA g246 t246 rfl) mi_X3_fault ml_L_78 im_X3_fault se_X3_fault ci_X3 (IsArm.o ‹_›) rfl rfl ⟨Nat.le_of_ble_eq_true rfl, Nat.le_of_ble_eq_true rfl⟩ (Nat.le_of_ble_eq_true rfl) (Nat.zero_le _) (Nat.zero_le _) (fun r256 V256 p256 => ?_)
                                            obtain ⟨rfl, r0256, ρ256, g256, t256⟩ := sq_flt ⟨p256.1.trans (by unfold cFlt; rw [if_pos (by decide)]), p256.2⟩
                                            refine k_ldc 259 261 C dL_refuses_259 rfl kc_L_56 ?_
                                            refine k_icmp_ne 261 268 264 C dL_refuses_261 (by decide) rfl (fun h261 => ?_) (fun h261 => ?_)
                                            · exact absurd rfl h261
                                            · refine k_iconst 264 265 C dL_refuses_264 rfl (v := 1) rfl ?_
                                              refine k_goto 265 269 C dL_refuses_265 (by decide) ?_
                                              refine k_istore_n 269 270 C [(3, _), (2, _), (1, _), (0, _)] dL_refuses_269 rfl (by decide) rfl ?_
                                              refine k_iload_n 270 271 C dL_refuses_270 rfl 0 rfl ?_
                                              refine k_if_eq 271 297 274 C dL_refuses_271 (by decide) rfl (fun h271 => ?_) (fun h271 => ?_)
                                              · exact absurd h271 (by decide)
                                              · refine k_aload_n 274 275 C dL_refuses_274 rfl 3 rfl ?_
                                                refine k_bipush 275 277 C dL_refuses_275 rfl (v := 16) rfl ?_
                                                refine k_callVI 277 280 C [_] [] dL_refuses_277 rfl (ct_X3_count hA g256 t256) mi_X3_count ml_L_9 im_X3_count se_X3_count ci_X3 (IsArm.o ‹_›) rfl rfl ⟨Nat.le_of_ble_eq_true rfl, Nat.le_of_ble_eq_true rfl⟩ (Nat.le_of_ble_eq_true rfl) (Nat.zero_le _) (Nat.zero_le _) (fun r277 V277 p277 => ?_)
                                                obtain ⟨rfl, rfl⟩ := And.intro p277.1.symm p277.2
                                                refine k_rwI (y := nI (h)) cCnt_16 ?_
                                                refine k_iload_n 280 281 C dL_refuses_280 rfl 2 rfl ?_
                                                refine k_icmp_ne 281 297 284 C dL_refuses_281 (by decide) rfl (fun h281 => ?_) (fun h281 => ?_)
                                                · exact absurd rfl h281
                                                · refine k_aload_n 284 285 C dL_refuses_284 rfl 3 rfl ?_
                                                  refine k_iconst 285 286 C dL_refuses_285 rfl (v := 0) rfl ?_
                                                  refine k_callVI 286 289 C [_] [] dL_refuses_286 rfl (ct_X3_count hA g256 t256) mi_X3_count ml_L_9 im_X3_count se_X3_count ci_X3 (IsArm.o ‹_›) rfl rfl ⟨Nat.le_of_ble_eq_true rfl, Nat.le_of_ble_eq_true rfl⟩ (Nat.le_of_ble_eq_true rfl) (Nat.zero_le _) (Nat.zero_le _) (fun r286 V286 p286 => ?_)
                                                  obtain ⟨rfl, rfl⟩ := And.intro p286.1.symm p286.2
                                                  refine k_rwI (y := nI (kn (S))) cCnt_0 ?_
                                                  refine k_iload_n 289 290 C dL_refuses_289 rfl 1 rfl ?_
                                                  refine k_icmp_ne 290 297 293 C dL_refuses_290 (by decide) rfl (fun h290 => ?_) (fun h290 => ?_)
                                                  · exact absurd rfl h290
                                                  · refine k_iconst 293 294 C dL_refuses_293 rfl (v := 1) rfl ?_
                                                    refine k_goto 294 298 C dL_refuses_294 (by decide) ?_
                                                    refine k_zret 298 C dL_refuses_298 rfl (by first | exact Or.inl rfl | exact Or.inr rfl | exact bi_01) ?_
                                                    exact ⟨rfl, _, _, g256, t256⟩
