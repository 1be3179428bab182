theorem pFail_m (P : Pt) (p r : Int32) : pm (pFail P p r) = pm P ∧ pat (pFail P p r) = pat P := by
  unfold pFail; split <;> exact ⟨rfl, rfl⟩
theorem pFail_rs {P : Pt} {p r : Int32} (hr : ¬ r = 0) : ¬ prs (pFail P p r) = 0 := by
  unfold pFail; split
  · exact hr
  · next h => exact h
theorem n21 {a b : Nat} (ha : a ≤ 21) (hb : b ≤ 21) : nI a ≤ nI b ↔ a ≤ b := nI_leI (by omega) (by omega)
set_option maxHeartbeats 4000000 in
set_option maxRecDepth 100000 in
theorem ct_X2_parsePoint {E : gE} {T : gT} {l : Launch} {V : gV} {jb : Int32} {t n : Nat} {cs : Nat → Int32} {P : Pt} (hx : IsTxt T t) (ht : TX V t cs n P) (hj : jb = 0 ∨ jb = 1) : CtV E T l yX2_parsePoint (gw yX2_parsePoint cX2_parsePoint 4 none) { frames := 3, cells := 0, slots := 0, locals := 65 } [.ref t, .int jb] V (fun (V' : gV) => TX V' t cs n (pPoint cs n P jb) ∧ Off V V' t (t + 5)) := by
  refine ctV_of (L := [(0, .ref t), (1, .int jb)]) (by decide) rfl (Nat.le_of_ble_eq_true rfl) rfl (fun p e s m args below meth c C => ?_)
  refine k_aload_n 0 1 C dX2_parsePoint_0 rfl 0 rfl ?_
  refine k_get 1 4 C dX2_parsePoint_1 rfl ci_X2 8 fl_X2_39 (IsTxt.o ‹_›) (by decide) rfl ?_
  refine k_rwI (ht.m) ?_
  refine k_bipush 4 6 C dX2_parsePoint_4 rfl (v := 20) rfl ?_
  refine k_icmp_lt 6 28 9 C dX2_parsePoint_6 (by decide) rfl (fun h6 => ?_) (fun h6 => ?_)
  · have z6 : nI (pm P) < nI 20 := h6
    rw [nI_ltI (by have := ht.m20; omega) (by omega)] at z6
    have zp : pPre cs n P = P := by unfold pPre; rw [if_pos z6]
    have q0 : TX V t cs n (pPre cs n P) := by rw [zp]; exact ht
    have f0 : Off V V t (t + 5) := Off.rf
    refine k_aload_n 28 29 C dX2_parsePoint_28 rfl 0 rfl ?_
    refine k_callVI 29 32 C [] [] dX2_parsePoint_29 rfl (ct_X2_parseNumber hx q0) mi_X2_parseNumber ml_X2_68 im_X2_parseNumber se_X2_parseNumber ci_X2 (IsTxt.o ‹_›) rfl rfl ⟨Nat.le_of_ble_eq_true rfl, Nat.le_of_ble_eq_true rfl⟩ (Nat.le_of_ble_eq_true rfl) (Nat.zero_le _) (Nat.zero_le _) (fun r29 V29 p29 => ?_)
    obtain ⟨rfl, q1, f1⟩ := p29
    refine k_istore_n 32 33 C [(2, _), (0, _), (1, _)] dX2_parsePoint_32 rfl (by decide) rfl ?_
    refine k_aload_n 33 34 C dX2_parsePoint_33 rfl 1 rfl ?_
    refine k_bipush 34 36 C dX2_parsePoint_34 rfl (v := 44) rfl ?_
    refine k_callVV 36 39 C [_] [] dX2_parsePoint_36 rfl (ct_X2_expect hx q1 (by decide)) mi_X2_expect ml_X2_54 im_X2_expect se_X2_expect ci_X2 (IsTxt.o ‹_›) rfl rfl ⟨Nat.le_of_ble_eq_true rfl, Nat.le_of_ble_eq_true rfl⟩ (Nat.le_of_ble_eq_true rfl) (Nat.zero_le _) (Nat.zero_le _) (fun V36 p36 => ?_)
    have q2 : TX V36 t cs n (pMid cs n P) := p36.1
    have f2 := f0.trans (f1.trans p36.2)
    refine k_aload_n 39 40 C dX2_parsePoint_39 rfl 1 rfl ?_
    refine k_callVI 40 43 C [] [] dX2_parsePoint_40 rfl (ct_X2_parseNumber hx q2) mi_X2_parseNumber ml_X2_68 im_X2_parseNumber se_X2_parseNumber ci_X2 (IsTxt.o ‹_›) rfl rfl ⟨Nat.le_of_ble_eq_true rfl, Nat.le_of_ble_eq_true rfl⟩ (Nat.le_of_ble_eq_true rfl) (Nat.zero_le _) (Nat.zero_le _) (fun r40 V40 p40 => ?_)
    obtain ⟨rfl, q3, f3⟩ := p40
    have f4 := f2.trans f3
    refine k_istore_n 43 44 C [(3, _), (2, _), (0, _), (1, _)] dX2_parsePoint_43 rfl (by decide) rfl ?_
    refine k_aload_n 44 45 C dX2_parsePoint_44 rfl 2 rfl ?_
    refine k_get 45 48 C dX2_parsePoint_45 rfl ci_X2 4 fl_X2_25 (IsTxt.o ‹_›) (by decide) rfl ?_
    refine k_rwI (y := prs (pNum cs n (pMid cs n P)).1) q3.rs ?_
    refine k_if_ne 48 134 51 C dX2_parsePoint_48 (by decide) rfl (fun h48 => ?_) (fun h48 => ?_)
    · refine k_vret 134 C dX2_parsePoint_134 rfl ?_
      first
        | exact ⟨by unfold pPoint pEnd; rw [if_neg (fun zz => h48 zz.1)]; exact q3, f4⟩
        | exact ⟨by unfold pPoint pEnd; rw [if_neg (fun zz => zm zz.2)]; exact q3, f4⟩
        | exact ⟨by unfold pPoint pEnd; rw [if_pos ⟨h48, zm⟩]; exact q3.push zm _ _ _, f4.trans (by repeat (first | exact Off.rf | refine Off.wI ?_ (by omega) (by omega)))⟩
    · refine k_aload_n 51 52 C dX2_parsePoint_51 rfl 2 rfl ?_
      refine k_get 52 55 C dX2_parsePoint_52 rfl ci_X2 8 fl_X2_39 (IsTxt.o ‹_›) (by decide) rfl ?_
      refine k_rwI (y := nI (pm (pNum cs n (pMid cs n P)).1)) q3.m ?_
      refine k_if_lt 55 134 58 C dX2_parsePoint_55 (by decide) rfl (fun h55 => ?_) (fun h55 => ?_)
      · exact absurd h55 (nI_pos (by have := q3.m20; omega))
      · refine k_aload_n 58 59 C dX2_parsePoint_58 rfl 2 rfl ?_
        refine k_get 59 62 C dX2_parsePoint_59 rfl ci_X2 8 fl_X2_39 (IsTxt.o ‹_›) (by decide) rfl ?_
        refine k_rwI (y := nI (pm (pNum cs n (pMid cs n P)).1)) q3.m ?_
        refine k_aload_n 62 63 C dX2_parsePoint_62 rfl 2 rfl ?_
        refine k_getF 63 66 C dX2_parsePoint_63 rfl ci_X2 5 fl_X2_28 (IsTxt.o ‹_›) (by decide) (IsTxt.f5 ‹_›) rfl ?_
        refine k_alen 66 67 C dX2_parsePoint_66 rfl (IsTxt.a5 ‹_›) (by decide) (v := 20) rfl ?_
        refine k_icmp_ge 67 134 70 C dX2_parsePoint_67 (by decide) rfl (fun h67 => ?_) (fun h67 => ?_)
        · have z67 : nI 20 ≤ nI (pm (pNum cs n (pMid cs n P)).1) := h67
          rw [n21 (by omega) (by have := q3.m20; omega)] at z67
          have zm : ¬ pm (pNum cs n (pMid cs n P)).1 < 20 := by omega
          refine k_vret 134 C dX2_parsePoint_134 rfl ?_
          first
            | exact ⟨by unfold pPoint pEnd; rw [if_neg (fun zz => h48 zz.1)]; exact q3, f4⟩
            | exact ⟨by unfold pPoint pEnd; rw [if_neg (fun zz => zm zz.2)]; exact q3, f4⟩
            | exact ⟨by unfold pPoint pEnd; rw [if_pos ⟨h48, zm⟩]; exact q3.push zm _ _ _, f4.trans (by repeat (first | exact Off.rf | refine Off.wI ?_ (by omega) (by omega)))⟩
        · have z67 : ¬ nI 20 ≤ nI (pm (pNum cs n (pMid cs n P)).1) := h67
          rw [n21 (by omega) (by have := q3.m20; omega)] at z67
          have zm : pm (pNum cs n (pMid cs n P)).1 < 20 := by omega
          refine k_aload_n 70 71 C dX2_parsePoint_70 rfl 2 rfl ?_
          refine k_get 71 74 C dX2_parsePoint_71 rfl ci_X2 8 fl_X2_39 (IsTxt.o ‹_›) (by decide) rfl ?_
          refine k_rwI (y := nI (pm (pNum cs n (pMid cs n P)).1)) q3.m ?_
          refine k_aload_n 74 75 C dX2_parsePoint_74 rfl 2 rfl ?_
          refine k_getF 75 78 C dX2_parsePoint_75 rfl ci_X2 6 fl_X2_32 (IsTxt.o ‹_›) (by decide) (IsTxt.f6 ‹_›) rfl ?_
          refine k_alen 78 79 C dX2_parsePoint_78 rfl (IsTxt.a6 ‹_›) (by decide) (v := 20) rfl ?_
          refine k_icmp_ge 79 134 82 C dX2_parsePoint_79 (by decide) rfl (fun h79 => ?_) (fun h79 => ?_)
          · exact absurd (show nI 20 ≤ nI (pm (pNum cs n (pMid cs n P)).1) from h79) (by rw [n21 (by omega) (by omega)]; omega)
          · refine k_aload_n 82 83 C dX2_parsePoint_82 rfl 2 rfl ?_
            refine k_get 83 86 C dX2_parsePoint_83 rfl ci_X2 8 fl_X2_39 (IsTxt.o ‹_›) (by decide) rfl ?_
            refine k_rwI (y := nI (pm (pNum cs n (pMid cs n P)).1)) q3.m ?_
            refine k_aload_n 86 87 C dX2_parsePoint_86 rfl 2 rfl ?_
            refine k_getF 87 90 C dX2_parsePoint_87 rfl ci_X2 7 fl_X2_35 (IsTxt.o ‹_›) (by decide) (IsTxt.f7 ‹_›) rfl ?_
            refine k_alen 90 91 C dX2_parsePoint_90 rfl (IsTxt.a7 ‹_›) (by decide) (v := 20) rfl ?_
            refine k_icmp_ge 91 134 94 C dX2_parsePoint_91 (by decide) rfl (fun h91 => ?_) (fun h91 => ?_)
            · exact absurd (show nI 20 ≤ nI (pm (pNum cs n (pMid cs n P)).1) from h91) (by rw [n21 (by omega) (by omega)]; omega)
            · refine k_aload_n 94 95 C dX2_parsePoint_94 rfl 2 rfl ?_
              refine k_getF 95 98 C dX2_parsePoint_95 rfl ci_X2 5 fl_X2_28 (IsTxt.o ‹_›) (by decide) (IsTxt.f5 ‹_›) rfl ?_
              refine k_aload_n 98 99 C dX2_parsePoint_98 rfl 2 rfl ?_
              refine k_get 99 102 C dX2_parsePoint_99 rfl ci_X2 8 fl_X2_39 (IsTxt.o ‹_›) (by decide) rfl ?_
              refine k_rwI (y := nI (pm (pNum cs n (pMid cs n P)).1)) q3.m ?_
              refine k_iload_n 102 103 C dX2_parsePoint_102 rfl 1 rfl ?_
              refine k_iast 103 104 C dX2_parsePoint_103 rfl (IsTxt.a5 ‹_›) (vp_in_nI zm (by decide)) ?_
              rw [nI_clamp (show pm (pNum cs n (pMid cs n P)).1 < 2 ^ 31 by omega)]
              refine k_aload_n 104 105 C dX2_parsePoint_104 rfl 2 rfl ?_
              refine k_getF 105 108 C dX2_parsePoint_105 rfl ci_X2 6 fl_X2_32 (IsTxt.o ‹_›) (by decide) (IsTxt.f6 ‹_›) rfl ?_
              refine k_aload_n 108 109 C dX2_parsePoint_108 rfl 2 rfl ?_
              refine k_get 109 112 C dX2_parsePoint_109 rfl ci_X2 8 fl_X2_39 (IsTxt.o ‹_›) (by decide) rfl ?_
              refine k_rwI (y := nI (pm (pNum cs n (pMid cs n P)).1)) (by simp [wI]; exact q3.m) ?_
              refine k_iload_n 112 113 C dX2_parsePoint_112 rfl 0 rfl ?_
              refine k_iast 113 114 C dX2_parsePoint_113 rfl (IsTxt.a6 ‹_›) (vp_in_nI zm (by decide)) ?_
              rw [nI_clamp (show pm (pNum cs n (pMid cs n P)).1 < 2 ^ 31 by omega)]
              refine k_aload_n 114 115 C dX2_parsePoint_114 rfl 2 rfl ?_
              refine k_getF 115 118 C dX2_parsePoint_115 rfl ci_X2 7 fl_X2_35 (IsTxt.o ‹_›) (by decide) (IsTxt.f7 ‹_›) rfl ?_
              refine k_aload_n 118 119 C dX2_parsePoint_118 rfl 2 rfl ?_
              refine k_get 119 122 C dX2_parsePoint_119 rfl ci_X2 8 fl_X2_39 (IsTxt.o ‹_›) (by decide) rfl ?_
              refine k_rwI (y := nI (pm (pNum cs n (pMid cs n P)).1)) (by simp [wI]; exact q3.m) ?_
              refine k_iload_n 122 123 C dX2_parsePoint_122 rfl 3 rfl ?_
              refine k_zast 123 124 C dX2_parsePoint_123 rfl (IsTxt.a7 ‹_›) (vp_in_nI zm (by decide)) ?_
              rw [nI_clamp (show pm (pNum cs n (pMid cs n P)).1 < 2 ^ 31 by omega), show vp_nar .boolean jb = jb from by rcases hj with rfl | rfl <;> rfl]
              refine k_aload_n 124 125 C dX2_parsePoint_124 rfl 2 rfl ?_
              refine k_dup 125 126 C dX2_parsePoint_125 rfl rfl ?_
              refine k_get 126 129 C dX2_parsePoint_126 rfl ci_X2 8 fl_X2_39 (IsTxt.o ‹_›) (by decide) rfl ?_
              refine k_rwI (y := nI (pm (pNum cs n (pMid cs n P)).1)) (by simp [wI]; exact q3.m) ?_
              refine k_iconst 129 130 C dX2_parsePoint_129 rfl (v := 1) rfl ?_
              refine k_iadd 130 131 C dX2_parsePoint_130 rfl  ?_
              refine k_rwI (nI_1 _) ?_
              refine k_put 131 134 C dX2_parsePoint_131 rfl ci_X2 8 fl_X2_39 (IsTxt.o ‹_›) (by decide) rfl rfl rfl wI_off (ps_2_8 _ _ _ _) ?_
              refine k_vret 134 C dX2_parsePoint_134 rfl ?_
              first
                | exact ⟨by unfold pPoint pEnd; rw [if_neg (fun zz => h48 zz.1)]; exact q3, f4⟩
                | exact ⟨by unfold pPoint pEnd; rw [if_neg (fun zz => zm zz.2)]; exact q3, f4⟩
                | exact ⟨by unfold pPoint pEnd; rw [if_pos ⟨h48, zm⟩]; exact q3.push zm _ _ _, f4.trans (by repeat (first | exact Off.rf | refine Off.wI ?_ (by omega) (by omega)))⟩
  · have z6 : ¬ nI (pm P) < nI 20 := h6
    rw [nI_ltI (by have := ht.m20; omega) (by omega)] at z6
    refine k_aload_n 9 10 C dX2_parsePoint_9 rfl 0 rfl ?_
    refine k_callVI 10 13 C [] [] dX2_parsePoint_10 rfl (ct_X2_here hx ht) mi_X2_here ml_X2_46 im_X2_here se_X2_here ci_X2 (IsTxt.o ‹_›) rfl rfl ⟨Nat.le_of_ble_eq_true rfl, Nat.le_of_ble_eq_true rfl⟩ (Nat.le_of_ble_eq_true rfl) (Nat.zero_le _) (Nat.zero_le _) (fun r10 V10 p10 => ?_)
    obtain ⟨rfl, rfl⟩ := And.intro p10.1.symm p10.2
    refine k_callSI 13 16 C [_] [] dX2_parsePoint_13 rfl ct_X2_isDigit mi_X2_isDigit ml_X2_61 st_X2_isDigit rfl rfl ⟨Nat.le_of_ble_eq_true rfl, Nat.le_of_ble_eq_true rfl⟩ (Nat.le_of_ble_eq_true rfl) (Nat.zero_le _) (Nat.zero_le _) (fun r13 V13 p13 => ?_)
    obtain ⟨rfl, rfl⟩ := And.intro p13.1.symm p13.2
    refine k_ifb_eq 16 28 19 C dX2_parsePoint_16 (by decide) rfl (fun h16 => ?_) (fun h16 => ?_)
    · have zp : pPre cs n P = P := by unfold pPre; rw [if_neg z6, if_neg h16]
      have q0 : TX V t cs n (pPre cs n P) := by rw [zp]; exact ht
      have f0 : Off V V t (t + 5) := Off.rf
      refine k_aload_n 28 29 C dX2_parsePoint_28 rfl 0 rfl ?_
      refine k_callVI 29 32 C [] [] dX2_parsePoint_29 rfl (ct_X2_parseNumber hx q0) mi_X2_parseNumber ml_X2_68 im_X2_parseNumber se_X2_parseNumber ci_X2 (IsTxt.o ‹_›) rfl rfl ⟨Nat.le_of_ble_eq_true rfl, Nat.le_of_ble_eq_true rfl⟩ (Nat.le_of_ble_eq_true rfl) (Nat.zero_le _) (Nat.zero_le _) (fun r29 V29 p29 => ?_)
      obtain ⟨rfl, q1, f1⟩ := p29
      refine k_istore_n 32 33 C [(2, _), (0, _), (1, _)] dX2_parsePoint_32 rfl (by decide) rfl ?_
      refine k_aload_n 33 34 C dX2_parsePoint_33 rfl 1 rfl ?_
      refine k_bipush 34 36 C dX2_parsePoint_34 rfl (v := 44) rfl ?_
      refine k_callVV 36 39 C [_] [] dX2_parsePoint_36 rfl (ct_X2_expect hx q1 (by decide)) mi_X2_expect ml_X2_54 im_X2_expect se_X2_expect ci_X2 (IsTxt.o ‹_›) rfl rfl ⟨Nat.le_of_ble_eq_true rfl, Nat.le_of_ble_eq_true rfl⟩ (Nat.le_of_ble_eq_true rfl) (Nat.zero_le _) (Nat.zero_le _) (fun V36 p36 => ?_)
      have q2 : TX V36 t cs n (pMid cs n P) := p36.1
      have f2 := f0.trans (f1.trans p36.2)
      refine k_aload_n 39 40 C dX2_parsePoint_39 rfl 1 rfl ?_
      refine k_callVI 40 43 C [] [] dX2_parsePoint_40 rfl (ct_X2_parseNumber hx q2) mi_X2_parseNumber ml_X2_68 im_X2_parseNumber se_X2_parseNumber ci_X2 (IsTxt.o ‹_›) rfl rfl ⟨Nat.le_of_ble_eq_true rfl, Nat.le_of_ble_eq_true rfl⟩ (Nat.le_of_ble_eq_true rfl) (Nat.zero_le _) (Nat.zero_le _) (fun r40 V40 p40 => ?_)
      obtain ⟨rfl, q3, f3⟩ := p40
      have f4 := f2.trans f3
      refine k_istore_n 43 44 C [(3, _), (2, _), (0, _), (1, _)] dX2_parsePoint_43 rfl (by decide) rfl ?_
      refine k_aload_n 44 45 C dX2_parsePoint_44 rfl 2 rfl ?_
      refine k_get 45 48 C dX2_parsePoint_45 rfl ci_X2 4 fl_X2_25 (IsTxt.o ‹_›) (by decide) rfl ?_
      refine k_rwI (y := prs (pNum cs n (pMid cs n P)).1) q3.rs ?_
      refine k_if_ne 48 134 51 C dX2_parsePoint_48 (by decide) rfl (fun h48 => ?_) (fun h48 => ?_)
      · refine k_vret 134 C dX2_parsePoint_134 rfl ?_
        first
          | exact ⟨by unfold pPoint pEnd; rw [if_neg (fun zz => h48 zz.1)]; exact q3, f4⟩
          | exact ⟨by unfold pPoint pEnd; rw [if_neg (fun zz => zm zz.2)]; exact q3, f4⟩
          | exact ⟨by unfold pPoint pEnd; rw [if_pos ⟨h48, zm⟩]; exact q3.push zm _ _ _, f4.trans (by repeat (first | exact Off.rf | refine Off.wI ?_ (by omega) (by omega)))⟩
      · refine k_aload_n 51 52 C dX2_parsePoint_51 rfl 2 rfl ?_
        refine k_get 52 55 C dX2_parsePoint_52 rfl ci_X2 8 fl_X2_39 (IsTxt.o ‹_›) (by decide) rfl ?_
        refine k_rwI (y := nI (pm (pNum cs n (pMid cs n P)).1)) q3.m ?_
        refine k_if_lt 55 134 58 C dX2_parsePoint_55 (by decide) rfl (fun h55 => ?_) (fun h55 => ?_)
        · exact absurd h55 (nI_pos (by have := q3.m20; omega))
        · refine k_aload_n 58 59 C dX2_parsePoint_58 rfl 2 rfl ?_
          refine k_get 59 62 C dX2_parsePoint_59 rfl ci_X2 8 fl_X2_39 (IsTxt.o ‹_›) (by decide) rfl ?_
          refine k_rwI (y := nI (pm (pNum cs n (pMid cs n P)).1)) q3.m ?_
          refine k_aload_n 62 63 C dX2_parsePoint_62 rfl 2 rfl ?_
          refine k_getF 63 66 C dX2_parsePoint_63 rfl ci_X2 5 fl_X2_28 (IsTxt.o ‹_›) (by decide) (IsTxt.f5 ‹_›) rfl ?_
          refine k_alen 66 67 C dX2_parsePoint_66 rfl (IsTxt.a5 ‹_›) (by decide) (v := 20) rfl ?_
          refine k_icmp_ge 67 134 70 C dX2_parsePoint_67 (by decide) rfl (fun h67 => ?_) (fun h67 => ?_)
          · have z67 : nI 20 ≤ nI (pm (pNum cs n (pMid cs n P)).1) := h67
            rw [n21 (by omega) (by have := q3.m20; omega)] at z67
            have zm : ¬ pm (pNum cs n (pMid cs n P)).1 < 20 := by omega
            refine k_vret 134 C dX2_parsePoint_134 rfl ?_
            first
              | exact ⟨by unfold pPoint pEnd; rw [if_neg (fun zz => h48 zz.1)]; exact q3, f4⟩
              | exact ⟨by unfold pPoint pEnd; rw [if_neg (fun zz => zm zz.2)]; exact q3, f4⟩
              | exact ⟨by unfold pPoint pEnd; rw [if_pos ⟨h48, zm⟩]; exact q3.push zm _ _ _, f4.trans (by repeat (first | exact Off.rf | refine Off.wI ?_ (by omega) (by omega)))⟩
          · have z67 : ¬ nI 20 ≤ nI (pm (pNum cs n (pMid cs n P)).1) := h67
            rw [n21 (by omega) (by have := q3.m20; omega)] at z67
            have zm : pm (pNum cs n (pMid cs n P)).1 < 20 := by omega
            refine k_aload_n 70 71 C dX2_parsePoint_70 rfl 2 rfl ?_
            refine k_get 71 74 C dX2_parsePoint_71 rfl ci_X2 8 fl_X2_39 (IsTxt.o ‹_›) (by decide) rfl ?_
            refine k_rwI (y := nI (pm (pNum cs n (pMid cs n P)).1)) q3.m ?_
            refine k_aload_n 74 75 C dX2_parsePoint_74 rfl 2 rfl ?_
            refine k_getF 75 78 C dX2_parsePoint_75 rfl ci_X2 6 fl_X2_32 (IsTxt.o ‹_›) (by decide) (IsTxt.f6 ‹_›) rfl ?_
            refine k_alen 78 79 C dX2_parsePoint_78 rfl (IsTxt.a6 ‹_›) (by decide) (v := 20) rfl ?_
            refine k_icmp_ge 79 134 82 C dX2_parsePoint_79 (by decide) rfl (fun h79 => ?_) (fun h79 => ?_)
            · exact absurd (show nI 20 ≤ nI (pm (pNum cs n (pMid cs n P)).1) from h79) (by rw [n21 (by omega) (by omega)]; omega)
            · refine k_aload_n 82 83 C dX2_parsePoint_82 rfl 2 rfl ?_
              refine k_get 83 86 C dX2_parsePoint_83 rfl ci_X2 8 fl_X2_39 (IsTxt.o ‹_›) (by decide) rfl ?_
              refine k_rwI (y := nI (pm (pNum cs n (pMid cs n P)).1)) q3.m ?_
              refine k_aload_n 86 87 C dX2_parsePoint_86 rfl 2 rfl ?_
              refine k_getF 87 90 C dX2_parsePoint_87 rfl ci_X2 7 fl_X2_35 (IsTxt.o ‹_›) (by decide) (IsTxt.f7 ‹_›) rfl ?_
              refine k_alen 90 91 C dX2_parsePoint_90 rfl (IsTxt.a7 ‹_›) (by decide) (v := 20) rfl ?_
              refine k_icmp_ge 91 134 94 C dX2_parsePoint_91 (by decide) rfl (fun h91 => ?_) (fun h91 => ?_)
              · exact absurd (show nI 20 ≤ nI (pm (pNum cs n (pMid cs n P)).1) from h91) (by rw [n21 (by omega) (by omega)]; omega)
              · refine k_aload_n 94 95 C dX2_parsePoint_94 rfl 2 rfl ?_
                refine k_getF 95 98 C dX2_parsePoint_95 rfl ci_X2 5 fl_X2_28 (IsTxt.o ‹_›) (by decide) (IsTxt.f5 ‹_›) rfl ?_
                refine k_aload_n 98 99 C dX2_parsePoint_98 rfl 2 rfl ?_
                refine k_get 99 102 C dX2_parsePoint_99 rfl ci_X2 8 fl_X2_39 (IsTxt.o ‹_›) (by decide) rfl ?_
                refine k_rwI (y := nI (pm (pNum cs n (pMid cs n P)).1)) q3.m ?_
                refine k_iload_n 102 103 C dX2_parsePoint_102 rfl 1 rfl ?_
                refine k_iast 103 104 C dX2_parsePoint_103 rfl (IsTxt.a5 ‹_›) (vp_in_nI zm (by decide)) ?_
                rw [nI_clamp (show pm (pNum cs n (pMid cs n P)).1 < 2 ^ 31 by omega)]
                refine k_aload_n 104 105 C dX2_parsePoint_104 rfl 2 rfl ?_
                refine k_getF 105 108 C dX2_parsePoint_105 rfl ci_X2 6 fl_X2_32 (IsTxt.o ‹_›) (by decide) (IsTxt.f6 ‹_›) rfl ?_
                refine k_aload_n 108 109 C dX2_parsePoint_108 rfl 2 rfl ?_
                refine k_get 109 112 C dX2_parsePoint_109 rfl ci_X2 8 fl_X2_39 (IsTxt.o ‹_›) (by decide) rfl ?_
                refine k_rwI (y := nI (pm (pNum cs n (pMid cs n P)).1)) (by simp [wI]; exact q3.m) ?_
                refine k_iload_n 112 113 C dX2_parsePoint_112 rfl 0 rfl ?_
                refine k_iast 113 114 C dX2_parsePoint_113 rfl (IsTxt.a6 ‹_›) (vp_in_nI zm (by decide)) ?_
                rw [nI_clamp (show pm (pNum cs n (pMid cs n P)).1 < 2 ^ 31 by omega)]
                refine k_aload_n 114 115 C dX2_parsePoint_114 rfl 2 rfl ?_
                refine k_getF 115 118 C dX2_parsePoint_115 rfl ci_X2 7 fl_X2_35 (IsTxt.o ‹_›) (by decide) (IsTxt.f7 ‹_›) rfl ?_
                refine k_aload_n 118 119 C dX2_parsePoint_118 rfl 2 rfl ?_
                refine k_get 119 122 C dX2_parsePoint_119 rfl ci_X2 8 fl_X2_39 (IsTxt.o ‹_›) (by decide) rfl ?_
                refine k_rwI (y := nI (pm (pNum cs n (pMid cs n P)).1)) (by simp [wI]; exact q3.m) ?_
                refine k_iload_n 122 123 C dX2_parsePoint_122 rfl 3 rfl ?_
                refine k_zast 123 124 C dX2_parsePoint_123 rfl (IsTxt.a7 ‹_›) (vp_in_nI zm (by decide)) ?_
                rw [nI_clamp (show pm (pNum cs n (pMid cs n P)).1 < 2 ^ 31 by omega), show vp_nar .boolean jb = jb from by rcases hj with rfl | rfl <;> rfl]
                refine k_aload_n 124 125 C dX2_parsePoint_124 rfl 2 rfl ?_
                refine k_dup 125 126 C dX2_parsePoint_125 rfl rfl ?_
                refine k_get 126 129 C dX2_parsePoint_126 rfl ci_X2 8 fl_X2_39 (IsTxt.o ‹_›) (by decide) rfl ?_
                refine k_rwI (y := nI (pm (pNum cs n (pMid cs n P)).1)) (by simp [wI]; exact q3.m) ?_
                refine k_iconst 129 130 C dX2_parsePoint_129 rfl (v := 1) rfl ?_
                refine k_iadd 130 131 C dX2_parsePoint_130 rfl  ?_
                refine k_rwI (nI_1 _) ?_
                refine k_put 131 134 C dX2_parsePoint_131 rfl ci_X2 8 fl_X2_39 (IsTxt.o ‹_›) (by decide) rfl rfl rfl wI_off (ps_2_8 _ _ _ _) ?_
                refine k_vret 134 C dX2_parsePoint_134 rfl ?_
                first
                  | exact ⟨by unfold pPoint pEnd; rw [if_neg (fun zz => h48 zz.1)]; exact q3, f4⟩
                  | exact ⟨by unfold pPoint pEnd; rw [if_neg (fun zz => zm zz.2)]; exact q3, f4⟩
                  | exact ⟨by unfold pPoint pEnd; rw [if_pos ⟨h48, zm⟩]; exact q3.push zm _ _ _, f4.trans (by repeat (first | exact Off.rf | refine Off.wI ?_ (by omega) (by omega)))⟩
    · refine k_aload_n 19 20 C dX2_parsePoint_19 rfl 0 rfl ?_
      refine k_aload_n 20 21 C dX2_parsePoint_20 rfl 0 rfl ?_
      refine k_get 21 24 C dX2_parsePoint_21 rfl ci_X2 2 fl_X2_19 (IsTxt.o ‹_›) (by decide) rfl ?_
      refine k_rwI (ht.at_) ?_
      refine k_iconst 24 25 C dX2_parsePoint_24 rfl (v := 4) rfl ?_
      refine k_callVV 25 28 C [_, _] [] dX2_parsePoint_25 rfl (ct_X2_fail hx ht) mi_X2_fail ml_X2_64 im_X2_fail se_X2_fail ci_X2 (IsTxt.o ‹_›) rfl rfl ⟨Nat.le_of_ble_eq_true rfl, Nat.le_of_ble_eq_true rfl⟩ (Nat.le_of_ble_eq_true rfl) (Nat.zero_le _) (Nat.zero_le _) (fun V25 p25 => ?_)
      have zp : pPre cs n P = pFail P (nI (pat P)) 4 := by unfold pPre; rw [if_neg z6, if_pos h16]
      have q0 : TX V25 t cs n (pPre cs n P) := by rw [zp]; exact p25.1
      have f0 := p25.2
      refine k_aload_n 28 29 C dX2_parsePoint_28 rfl 0 rfl ?_
      refine k_callVI 29 32 C [] [] dX2_parsePoint_29 rfl (ct_X2_parseNumber hx q0) mi_X2_parseNumber ml_X2_68 im_X2_parseNumber se_X2_parseNumber ci_X2 (IsTxt.o ‹_›) rfl rfl ⟨Nat.le_of_ble_eq_true rfl, Nat.le_of_ble_eq_true rfl⟩ (Nat.le_of_ble_eq_true rfl) (Nat.zero_le _) (Nat.zero_le _) (fun r29 V29 p29 => ?_)
      obtain ⟨rfl, q1, f1⟩ := p29
      refine k_istore_n 32 33 C [(2, _), (0, _), (1, _)] dX2_parsePoint_32 rfl (by decide) rfl ?_
      refine k_aload_n 33 34 C dX2_parsePoint_33 rfl 1 rfl ?_
      refine k_bipush 34 36 C dX2_parsePoint_34 rfl (v := 44) rfl ?_
      refine k_callVV 36 39 C [_] [] dX2_parsePoint_36 rfl (ct_X2_expect hx q1 (by decide)) mi_X2_expect ml_X2_54 im_X2_expect se_X2_expect ci_X2 (IsTxt.o ‹_›) rfl rfl ⟨Nat.le_of_ble_eq_true rfl, Nat.le_of_ble_eq_true rfl⟩ (Nat.le_of_ble_eq_true rfl) (Nat.zero_le _) (Nat.zero_le _) (fun V36 p36 => ?_)
      have q2 : TX V36 t cs n (pMid cs n P) := p36.1
      have f2 := f0.trans (f1.trans p36.2)
      refine k_aload_n 39 40 C dX2_parsePoint_39 rfl 1 rfl ?_
      refine k_callVI 40 43 C [] [] dX2_parsePoint_40 rfl (ct_X2_parseNumber hx q2) mi_X2_parseNumber ml_X2_68 im_X2_parseNumber se_X2_parseNumber ci_X2 (IsTxt.o ‹_›) rfl rfl ⟨Nat.le_of_ble_eq_true rfl, Nat.le_of_ble_eq_true rfl⟩ (Nat.le_of_ble_eq_true rfl) (Nat.zero_le _) (Nat.zero_le _) (fun r40 V40 p40 => ?_)
      obtain ⟨rfl, q3, f3⟩ := p40
      have f4 := f2.trans f3
      refine k_istore_n 43 44 C [(3, _), (2, _), (0, _), (1, _)] dX2_parsePoint_43 rfl (by decide) rfl ?_
      refine k_aload_n 44 45 C dX2_parsePoint_44 rfl 2 rfl ?_
      refine k_get 45 48 C dX2_parsePoint_45 rfl ci_X2 4 fl_X2_25 (IsTxt.o ‹_›) (by decide) rfl ?_
      refine k_rwI (y := prs (pNum cs n (pMid cs n P)).1) q3.rs ?_
      refine k_if_ne 48 134 51 C dX2_parsePoint_48 (by decide) rfl (fun h48 => ?_) (fun h48 => ?_)
      · refine k_vret 134 C dX2_parsePoint_134 rfl ?_
        first
          | exact ⟨by unfold pPoint pEnd; rw [if_neg (fun zz => h48 zz.1)]; exact q3, f4⟩
          | exact ⟨by unfold pPoint pEnd; rw [if_neg (fun zz => zm zz.2)]; exact q3, f4⟩
          | exact ⟨by unfold pPoint pEnd; rw [if_pos ⟨h48, zm⟩]; exact q3.push zm _ _ _, f4.trans (by repeat (first | exact Off.rf | refine Off.wI ?_ (by omega) (by omega)))⟩
      · refine k_aload_n 51 52 C dX2_parsePoint_51 rfl 2 rfl ?_
        refine k_get 52 55 C dX2_parsePoint_52 rfl ci_X2 8 fl_X2_39 (IsTxt.o ‹_›) (by decide) rfl ?_
        refine k_rwI (y := nI (pm (pNum cs n (pMid cs n P)).1)) q3.m ?_
        refine k_if_lt 55 134 58 C dX2_parsePoint_55 (by decide) rfl (fun h55 => ?_) (fun h55 => ?_)
        · exact absurd h55 (nI_pos (by have := q3.m20; omega))
        · refine k_aload_n 58 59 C dX2_parsePoint_58 rfl 2 rfl ?_
          refine k_get 59 62 C dX2_parsePoint_59 rfl ci_X2 8 fl_X2_39 (IsTxt.o ‹_›) (by decide) rfl ?_
          refine k_rwI (y := nI (pm (pNum cs n (pMid cs n P)).1)) q3.m ?_
          refine k_aload_n 62 63 C dX2_parsePoint_62 rfl 2 rfl ?_
          refine k_getF 63 66 C dX2_parsePoint_63 rfl ci_X2 5 fl_X2_28 (IsTxt.o ‹_›) (by decide) (IsTxt.f5 ‹_›) rfl ?_
          refine k_alen 66 67 C dX2_parsePoint_66 rfl (IsTxt.a5 ‹_›) (by decide) (v := 20) rfl ?_
          refine k_icmp_ge 67 134 70 C dX2_parsePoint_67 (by decide) rfl (fun h67 => ?_) (fun h67 => ?_)
          · have z67 : nI 20 ≤ nI (pm (pNum cs n (pMid cs n P)).1) := h67
            rw [n21 (by omega) (by have := q3.m20; omega)] at z67
            have zm : ¬ pm (pNum cs n (pMid cs n P)).1 < 20 := by omega
            refine k_vret 134 C dX2_parsePoint_134 rfl ?_
            first
              | exact ⟨by unfold pPoint pEnd; rw [if_neg (fun zz => h48 zz.1)]; exact q3, f4⟩
              | exact ⟨by unfold pPoint pEnd; rw [if_neg (fun zz => zm zz.2)]; exact q3, f4⟩
              | exact ⟨by unfold pPoint pEnd; rw [if_pos ⟨h48, zm⟩]; exact q3.push zm _ _ _, f4.trans (by repeat (first | exact Off.rf | refine Off.wI ?_ (by omega) (by omega)))⟩
          · have z67 : ¬ nI 20 ≤ nI (pm (pNum cs n (pMid cs n P)).1) := h67
            rw [n21 (by omega) (by have := q3.m20; omega)] at z67
            have zm : pm (pNum cs n (pMid cs n P)).1 < 20 := by omega
            refine k_aload_n 70 71 C dX2_parsePoint_70 rfl 2 rfl ?_
            refine k_get 71 74 C dX2_parsePoint_71 rfl ci_X2 8 fl_X2_39 (IsTxt.o ‹_›) (by decide) rfl ?_
            refine k_rwI (y := nI (pm (pNum cs n (pMid cs n P)).1)) q3.m ?_
            refine k_aload_n 74 75 C dX2_parsePoint_74 rfl 2 rfl ?_
            refine k_getF 75 78 C dX2_parsePoint_75 rfl ci_X2 6 fl_X2_32 (IsTxt.o ‹_›) (by decide) (IsTxt.f6 ‹_›) rfl ?_
            refine k_alen 78 79 C dX2_parsePoint_78 rfl (IsTxt.a6 ‹_›) (by decide) (v := 20) rfl ?_
            refine k_icmp_ge 79 134 82 C dX2_parsePoint_79 (by decide) rfl (fun h79 => ?_) (fun h79 => ?_)
            · exact absurd (show nI 20 ≤ nI (pm (pNum cs n (pMid cs n P)).1) from h79) (by rw [n21 (by omega) (by omega)]; omega)
            · refine k_aload_n 82 83 C dX2_parsePoint_82 rfl 2 rfl ?_
              refine k_get 83 86 C dX2_parsePoint_83 rfl ci_X2 8 fl_X2_39 (IsTxt.o ‹_›) (by decide) rfl ?_
              refine k_rwI (y := nI (pm (pNum cs n (pMid cs n P)).1)) q3.m ?_
              refine k_aload_n 86 87 C dX2_parsePoint_86 rfl 2 rfl ?_
              refine k_getF 87 90 C dX2_parsePoint_87 rfl ci_X2 7 fl_X2_35 (IsTxt.o ‹_›) (by decide) (IsTxt.f7 ‹_›) rfl ?_
              refine k_alen 90 91 C dX2_parsePoint_90 rfl (IsTxt.a7 ‹_›) (by decide) (v := 20) rfl ?_
              refine k_icmp_ge 91 134 94 C dX2_parsePoint_91 (by decide) rfl (fun h91 => ?_) (fun h91 => ?_)
              · exact absurd (show nI 20 ≤ nI (pm (pNum cs n (pMid cs n P)).1) from h91) (by rw [n21 (by omega) (by omega)]; omega)
              · refine k_aload_n 94 95 C dX2_parsePoint_94 rfl 2 rfl ?_
                refine k_getF 95 98 C dX2_parsePoint_95 rfl ci_X2 5 fl_X2_28 (IsTxt.o ‹_›) (by decide) (IsTxt.f5 ‹_›) rfl ?_
                refine k_aload_n 98 99 C dX2_parsePoint_98 rfl 2 rfl ?_
                refine k_get 99 102 C dX2_parsePoint_99 rfl ci_X2 8 fl_X2_39 (IsTxt.o ‹_›) (by decide) rfl ?_
                refine k_rwI (y := nI (pm (pNum cs n (pMid cs n P)).1)) q3.m ?_
                refine k_iload_n 102 103 C dX2_parsePoint_102 rfl 1 rfl ?_
                refine k_iast 103 104 C dX2_parsePoint_103 rfl (IsTxt.a5 ‹_›) (vp_in_nI zm (by decide)) ?_
                rw [nI_clamp (show pm (pNum cs n (pMid cs n P)).1 < 2 ^ 31 by omega)]
                refine k_aload_n 104 105 C dX2_parsePoint_104 rfl 2 rfl ?_
                refine k_getF 105 108 C dX2_parsePoint_105 rfl ci_X2 6 fl_X2_32 (IsTxt.o ‹_›) (by decide) (IsTxt.f6 ‹_›) rfl ?_
                refine k_aload_n 108 109 C dX2_parsePoint_108 rfl 2 rfl ?_
                refine k_get 109 112 C dX2_parsePoint_109 rfl ci_X2 8 fl_X2_39 (IsTxt.o ‹_›) (by decide) rfl ?_
                refine k_rwI (y := nI (pm (pNum cs n (pMid cs n P)).1)) (by simp [wI]; exact q3.m) ?_
                refine k_iload_n 112 113 C dX2_parsePoint_112 rfl 0 rfl ?_
                refine k_iast 113 114 C dX2_parsePoint_113 rfl (IsTxt.a6 ‹_›) (vp_in_nI zm (by decide)) ?_
                rw [nI_clamp (show pm (pNum cs n (pMid cs n P)).1 < 2 ^ 31 by omega)]
                refine k_aload_n 114 115 C dX2_parsePoint_114 rfl 2 rfl ?_
                refine k_getF 115 118 C dX2_parsePoint_115 rfl ci_X2 7 fl_X2_35 (IsTxt.o ‹_›) (by decide) (IsTxt.f7 ‹_›) rfl ?_
                refine k_aload_n 118 119 C dX2_parsePoint_118 rfl 2 rfl ?_
                refine k_get 119 122 C dX2_parsePoint_119 rfl ci_X2 8 fl_X2_39 (IsTxt.o ‹_›) (by decide) rfl ?_
                refine k_rwI (y := nI (pm (pNum cs n (pMid cs n P)).1)) (by simp [wI]; exact q3.m) ?_
                refine k_iload_n 122 123 C dX2_parsePoint_122 rfl 3 rfl ?_
                refine k_zast 123 124 C dX2_parsePoint_123 rfl (IsTxt.a7 ‹_›) (vp_in_nI zm (by decide)) ?_
                rw [nI_clamp (show pm (pNum cs n (pMid cs n P)).1 < 2 ^ 31 by omega), show vp_nar .boolean jb = jb from by rcases hj with rfl | rfl <;> rfl]
                refine k_aload_n 124 125 C dX2_parsePoint_124 rfl 2 rfl ?_
                refine k_dup 125 126 C dX2_parsePoint_125 rfl rfl ?_
                refine k_get 126 129 C dX2_parsePoint_126 rfl ci_X2 8 fl_X2_39 (IsTxt.o ‹_›) (by decide) rfl ?_
                refine k_rwI (y := nI (pm (pNum cs n (pMid cs n P)).1)) (by simp [wI]; exact q3.m) ?_
                refine k_iconst 129 130 C dX2_parsePoint_129 rfl (v := 1) rfl ?_
                refine k_iadd 130 131 C dX2_parsePoint_130 rfl  ?_
                refine k_rwI (nI_1 _) ?_
                refine k_put 131 134 C dX2_parsePoint_131 rfl ci_X2 8 fl_X2_39 (IsTxt.o ‹_›) (by decide) rfl rfl rfl wI_off (ps_2_8 _ _ _ _) ?_
                refine k_vret 134 C dX2_parsePoint_134 rfl ?_
                first
                  | exact ⟨by unfold pPoint pEnd; rw [if_neg (fun zz => h48 zz.1)]; exact q3, f4⟩
                  | exact ⟨by unfold pPoint pEnd; rw [if_neg (fun zz => zm zz.2)]; exact q3, f4⟩
                  | exact ⟨by unfold pPoint pEnd; rw [if_pos ⟨h48, zm⟩]; exact q3.push zm _ _ _, f4.trans (by repeat (first | exact Off.rf | refine Off.wI ?_ (by omega) (by omega)))⟩
set_option maxHeartbeats 4000000 in
set_option maxRecDepth 100000 in
theorem ct_X2_parse {E : gE} {T : gT} {l : Launch} {V : gV} {t n : Nat} {cs : Nat → Int32} (hx : IsTxt T t) (hcc : TC V t cs n) {PP : Pt} (hPP : PP = pParse cs n (V.1 t 3) (V.1 (t + 2)) (V.1 (t + 3)) (V.1 (t + 4))) : CtI E T l yX2_parse (gw yX2_parse cX2_parse 4 (some .int)) { frames := 4, cells := 0, slots := 0, locals := 88 } [.ref t] V (fun (r : Int32) (V' : gV) => r = prs (PP) ∧ TX V' t cs n (PP) ∧ Off V V' t (t + 5)) := by
  refine ctI_of (L := [(0, .ref t)]) (by decide) rfl (Nat.le_of_ble_eq_true rfl) rfl (fun p e s m args below meth c C => ?_)
  obtain ⟨G, hG⟩ : ∃ G, G = pLoop cs n 21 (0, V.1 t 3, 0, 0, V.1 (t + 2), V.1 (t + 3), V.1 (t + 4)) 0 1 := ⟨_, rfl⟩
  have loop21 : ∀ (f : Nat) (V1 : gV) (i : Nat) (P1 : Pt) (jb hm : Int32), 21 - i = f → (i ≤ 21) → (jb = 0 ∨ jb = 1) → (hm = 0 ∨ hm = 1) → (TX V1 t cs n P1) → (pLoop cs n (21 - i) P1 jb hm = G) → (Off V V1 t (t + 5)) → KW E T V1 p l e { frames := 4, cells := 0, slots := 0, locals := 88 } s m args below meth c 4 0 0 (MQ below (va_Qi (fun (r : Int32) (V' : gV) => r = prs (PP) ∧ TX V' t cs n (PP) ∧ Off V V' t (t + 5)) (RepS E T) (gA E)) args s 0 0 (gA E)) 21 [(3, .int (nI i)), (2, .int hm), (1, .int jb), (0, .ref t)] [] := by
    intro f
    induction f using Nat.strongRecOn with
    | _ f ih =>
    intro V1 i P1 jb hm hf hi hj hh g1 g2 g3
    refine k_iload_n 21 22 C dX2_parse_21 rfl 0 rfl ?_
    refine k_bipush 22 24 C dX2_parse_22 rfl (v := 20) rfl ?_
    refine k_icmp_gt 24 88 27 C dX2_parse_24 (by decide) rfl (fun h24 => ?_) (fun h24 => ?_)
    · have z24 : nI 20 < nI i := h24
      rw [nI_ltI (by omega) (by omega)] at z24
      obtain rfl : i = 21 := by omega
      have zf : G = P1 := g2.symm
      refine k_aload_n 88 89 C dX2_parse_88 rfl 3 rfl ?_
      refine k_bipush 89 91 C dX2_parse_89 rfl (v := 46) rfl ?_
      refine k_callVV 91 94 C [_] [] dX2_parse_91 rfl (ct_X2_expect hx g1 (by decide)) mi_X2_expect ml_X2_54 im_X2_expect se_X2_expect ci_X2 (IsTxt.o ‹_›) rfl rfl ⟨Nat.le_of_ble_eq_true rfl, Nat.le_of_ble_eq_true rfl⟩ (Nat.le_of_ble_eq_true rfl) (Nat.zero_le _) (Nat.zero_le _) (fun V91 p91 => ?_)
      obtain ⟨q4, f7⟩ := p91
      have f8 := g3.trans f7
      refine k_aload_n 94 95 C dX2_parse_94 rfl 3 rfl ?_
      refine k_get 95 98 C dX2_parse_95 rfl ci_X2 4 fl_X2_25 (IsTxt.o ‹_›) (by decide) rfl ?_
      refine k_rwI (y := prs (pExp cs n P1 46)) q4.rs ?_
      refine k_if_ne 98 116 101 C dX2_parse_98 (by decide) rfl (fun h98 => ?_) (fun h98 => ?_)
      · refine k_aload_n 116 117 C dX2_parse_116 rfl 3 rfl ?_
        first
          | have zdone := q5
          | (have zr : PP = pExp cs n P1 46 := by rw [hPP]; unfold pParse pFin; rw [← hG, zf, if_neg (fun zw => by first | exact h98 zw.1 | exact zz zw.2)]
             rw [← zr] at q4
             have q5 := q4
             have fx := f8)
        refine k_get 117 120 C dX2_parse_117 rfl ci_X2 4 fl_X2_25 (IsTxt.o ‹_›) (by decide) rfl ?_
        refine k_rwI (y := prs (PP)) q5.rs ?_
        refine k_iret 120 C dX2_parse_120 rfl ?_
        exact ⟨rfl, q5, fx⟩
      · refine k_aload_n 101 102 C dX2_parse_101 rfl 3 rfl ?_
        refine k_get 102 105 C dX2_parse_102 rfl ci_X2 2 fl_X2_19 (IsTxt.o ‹_›) (by decide) rfl ?_
        refine k_rwI (y := nI (pat (pExp cs n P1 46))) q4.at_ ?_
        refine k_aload_n 105 106 C dX2_parse_105 rfl 3 rfl ?_
        refine k_get 106 109 C dX2_parse_106 rfl ci_X2 1 fl_X2_15 (IsTxt.o ‹_›) (by decide) rfl ?_
        refine k_rwI (q4.len) ?_
        refine k_icmp_ge 109 116 112 C dX2_parse_109 (by decide) rfl (fun h109 => ?_) (fun h109 => ?_)
        · rw [n100 (by have := q4.n100; omega) (by have := q4.n100; have := q4.le; omega)] at h109
          have zz : ¬ pat (pExp cs n P1 46) < n := by omega
          refine k_aload_n 116 117 C dX2_parse_116 rfl 3 rfl ?_
          first
            | have zdone := q5
            | (have zr : PP = pExp cs n P1 46 := by rw [hPP]; unfold pParse pFin; rw [← hG, zf, if_neg (fun zw => by first | exact h98 zw.1 | exact zz zw.2)]
               rw [← zr] at q4
               have q5 := q4
               have fx := f8)
          refine k_get 117 120 C dX2_parse_117 rfl ci_X2 4 fl_X2_25 (IsTxt.o ‹_›) (by decide) rfl ?_
          refine k_rwI (y := prs (PP)) q5.rs ?_
          refine k_iret 120 C dX2_parse_120 rfl ?_
          exact ⟨rfl, q5, fx⟩
        · rw [n100 (by have := q4.n100; omega) (by have := q4.n100; have := q4.le; omega)] at h109
          have zz : pat (pExp cs n P1 46) < n := by omega
          refine k_aload_n 112 113 C dX2_parse_112 rfl 3 rfl ?_
          refine k_callVV 113 116 C [] [] dX2_parse_113 rfl (ct_X2_failHere hx q4) mi_X2_failHere ml_X2_58 im_X2_failHere se_X2_failHere ci_X2 (IsTxt.o ‹_›) rfl rfl ⟨Nat.le_of_ble_eq_true rfl, Nat.le_of_ble_eq_true rfl⟩ (Nat.le_of_ble_eq_true rfl) (Nat.zero_le _) (Nat.zero_le _) (fun V113 p113 => ?_)
          obtain ⟨q5, f9⟩ := p113
          have zr : PP = pFH (pExp cs n P1 46) n := by rw [hPP]; unfold pParse pFin; rw [← hG, zf, if_pos ⟨h98, zz⟩]
          rw [← zr] at q5
          have fx := f8.trans f9
          refine k_aload_n 116 117 C dX2_parse_116 rfl 3 rfl ?_
          first
            | have zdone := q5
            | (have zr : PP = pExp cs n P1 46 := by rw [hPP]; unfold pParse pFin; rw [← hG, zf, if_neg (fun zw => by first | exact h98 zw.1 | exact zz zw.2)]
               rw [← zr] at q4
               have q5 := q4
               have fx := f8)
          refine k_get 117 120 C dX2_parse_117 rfl ci_X2 4 fl_X2_25 (IsTxt.o ‹_›) (by decide) rfl ?_
          refine k_rwI (y := prs (PP)) q5.rs ?_
          refine k_iret 120 C dX2_parse_120 rfl ?_
          exact ⟨rfl, q5, fx⟩
    · have z24 : ¬ nI 20 < nI i := h24
      rw [nI_ltI (by omega) (by omega)] at z24
      have zl : 21 - i = (21 - (i + 1)) + 1 := by omega
      rw [zl] at g2
      refine k_iload_n 27 28 C dX2_parse_27 rfl 1 rfl ?_
      refine k_if_eq 28 88 31 C dX2_parse_28 (by decide) rfl (fun h28 => ?_) (fun h28 => ?_)
      · have zf : G = P1 := by rw [← g2]; simp only [pLoop]; rw [if_pos h28]
        refine k_aload_n 88 89 C dX2_parse_88 rfl 3 rfl ?_
        refine k_bipush 89 91 C dX2_parse_89 rfl (v := 46) rfl ?_
        refine k_callVV 91 94 C [_] [] dX2_parse_91 rfl (ct_X2_expect hx g1 (by decide)) mi_X2_expect ml_X2_54 im_X2_expect se_X2_expect ci_X2 (IsTxt.o ‹_›) rfl rfl ⟨Nat.le_of_ble_eq_true rfl, Nat.le_of_ble_eq_true rfl⟩ (Nat.le_of_ble_eq_true rfl) (Nat.zero_le _) (Nat.zero_le _) (fun V91 p91 => ?_)
        obtain ⟨q4, f7⟩ := p91
        have f8 := g3.trans f7
        refine k_aload_n 94 95 C dX2_parse_94 rfl 3 rfl ?_
        refine k_get 95 98 C dX2_parse_95 rfl ci_X2 4 fl_X2_25 (IsTxt.o ‹_›) (by decide) rfl ?_
        refine k_rwI (y := prs (pExp cs n P1 46)) q4.rs ?_
        refine k_if_ne 98 116 101 C dX2_parse_98 (by decide) rfl (fun h98 => ?_) (fun h98 => ?_)
        · refine k_aload_n 116 117 C dX2_parse_116 rfl 3 rfl ?_
          first
            | have zdone := q5
            | (have zr : PP = pExp cs n P1 46 := by rw [hPP]; unfold pParse pFin; rw [← hG, zf, if_neg (fun zw => by first | exact h98 zw.1 | exact zz zw.2)]
               rw [← zr] at q4
               have q5 := q4
               have fx := f8)
          refine k_get 117 120 C dX2_parse_117 rfl ci_X2 4 fl_X2_25 (IsTxt.o ‹_›) (by decide) rfl ?_
          refine k_rwI (y := prs (PP)) q5.rs ?_
          refine k_iret 120 C dX2_parse_120 rfl ?_
          exact ⟨rfl, q5, fx⟩
        · refine k_aload_n 101 102 C dX2_parse_101 rfl 3 rfl ?_
          refine k_get 102 105 C dX2_parse_102 rfl ci_X2 2 fl_X2_19 (IsTxt.o ‹_›) (by decide) rfl ?_
          refine k_rwI (y := nI (pat (pExp cs n P1 46))) q4.at_ ?_
          refine k_aload_n 105 106 C dX2_parse_105 rfl 3 rfl ?_
          refine k_get 106 109 C dX2_parse_106 rfl ci_X2 1 fl_X2_15 (IsTxt.o ‹_›) (by decide) rfl ?_
          refine k_rwI (q4.len) ?_
          refine k_icmp_ge 109 116 112 C dX2_parse_109 (by decide) rfl (fun h109 => ?_) (fun h109 => ?_)
          · rw [n100 (by have := q4.n100; omega) (by have := q4.n100; have := q4.le; omega)] at h109
            have zz : ¬ pat (pExp cs n P1 46) < n := by omega
            refine k_aload_n 116 117 C dX2_parse_116 rfl 3 rfl ?_
            first
              | have zdone := q5
              | (have zr : PP = pExp cs n P1 46 := by rw [hPP]; unfold pParse pFin; rw [← hG, zf, if_neg (fun zw => by first | exact h98 zw.1 | exact zz zw.2)]
                 rw [← zr] at q4
                 have q5 := q4
                 have fx := f8)
            refine k_get 117 120 C dX2_parse_117 rfl ci_X2 4 fl_X2_25 (IsTxt.o ‹_›) (by decide) rfl ?_
            refine k_rwI (y := prs (PP)) q5.rs ?_
            refine k_iret 120 C dX2_parse_120 rfl ?_
            exact ⟨rfl, q5, fx⟩
          · rw [n100 (by have := q4.n100; omega) (by have := q4.n100; have := q4.le; omega)] at h109
            have zz : pat (pExp cs n P1 46) < n := by omega
            refine k_aload_n 112 113 C dX2_parse_112 rfl 3 rfl ?_
            refine k_callVV 113 116 C [] [] dX2_parse_113 rfl (ct_X2_failHere hx q4) mi_X2_failHere ml_X2_58 im_X2_failHere se_X2_failHere ci_X2 (IsTxt.o ‹_›) rfl rfl ⟨Nat.le_of_ble_eq_true rfl, Nat.le_of_ble_eq_true rfl⟩ (Nat.le_of_ble_eq_true rfl) (Nat.zero_le _) (Nat.zero_le _) (fun V113 p113 => ?_)
            obtain ⟨q5, f9⟩ := p113
            have zr : PP = pFH (pExp cs n P1 46) n := by rw [hPP]; unfold pParse pFin; rw [← hG, zf, if_pos ⟨h98, zz⟩]
            rw [← zr] at q5
            have fx := f8.trans f9
            refine k_aload_n 116 117 C dX2_parse_116 rfl 3 rfl ?_
            first
              | have zdone := q5
              | (have zr : PP = pExp cs n P1 46 := by rw [hPP]; unfold pParse pFin; rw [← hG, zf, if_neg (fun zw => by first | exact h98 zw.1 | exact zz zw.2)]
                 rw [← zr] at q4
                 have q5 := q4
                 have fx := f8)
            refine k_get 117 120 C dX2_parse_117 rfl ci_X2 4 fl_X2_25 (IsTxt.o ‹_›) (by decide) rfl ?_
            refine k_rwI (y := prs (PP)) q5.rs ?_
            refine k_iret 120 C dX2_parse_120 rfl ?_
            exact ⟨rfl, q5, fx⟩
      · simp only [pLoop] at g2
        rw [if_neg h28] at g2
        refine k_aload_n 31 32 C dX2_parse_31 rfl 3 rfl ?_
        refine k_iload_n 32 33 C dX2_parse_32 rfl 2 rfl ?_
        refine k_callVV 33 36 C [_] [] dX2_parse_33 rfl (ct_X2_parsePoint hx g1 hj) mi_X2_parsePoint ml_X2_42 im_X2_parsePoint se_X2_parsePoint ci_X2 (IsTxt.o ‹_›) rfl rfl ⟨Nat.le_of_ble_eq_true rfl, Nat.le_of_ble_eq_true rfl⟩ (Nat.le_of_ble_eq_true rfl) (Nat.zero_le _) (Nat.zero_le _) (fun V33 p33 => ?_)
        obtain ⟨q1, f1⟩ := p33
        have f2 := g3.trans f1
        refine k_aload_n 36 37 C dX2_parse_36 rfl 3 rfl ?_
        refine k_callVI 37 40 C [] [] dX2_parse_37 rfl (ct_X2_here hx q1) mi_X2_here ml_X2_46 im_X2_here se_X2_here ci_X2 (IsTxt.o ‹_›) rfl rfl ⟨Nat.le_of_ble_eq_true rfl, Nat.le_of_ble_eq_true rfl⟩ (Nat.le_of_ble_eq_true rfl) (Nat.zero_le _) (Nat.zero_le _) (fun r37 V37 p37 => ?_)
        obtain ⟨rfl, rfl⟩ := And.intro p37.1.symm p37.2
        refine k_bipush 40 42 C dX2_parse_40 rfl (v := 45) rfl ?_
        refine k_icmp_ne 42 49 45 C dX2_parse_42 (by decide) rfl (fun h42 => ?_) (fun h42 => ?_)
        · refine k_iconst 49 50 C dX2_parse_49 rfl (v := 0) rfl ?_
          refine k_istore_n 50 51 C [(1, _), (3, _), (2, _), (0, _)] dX2_parse_50 rfl (by decide) rfl ?_
          refine k_aload_n 51 52 C dX2_parse_51 rfl 3 rfl ?_
          refine k_get 52 55 C dX2_parse_52 rfl ci_X2 4 fl_X2_25 (IsTxt.o ‹_›) (by decide) rfl ?_
          refine k_rwI (y := prs (pPoint cs n P1 jb)) q1.rs ?_
          refine k_if_ne 55 80 58 C dX2_parse_55 (by decide) rfl (fun h55 => ?_) (fun h55 => ?_)
          · refine k_iconst 80 81 C dX2_parse_80 rfl (v := 0) rfl ?_
            refine k_istore_n 81 82 C [(2, _), (1, _), (3, _), (0, _)] dX2_parse_81 rfl (by decide) rfl ?_
            refine k_iinc 82 85 C [(3, _), (2, _), (1, _), (0, _)] (nI (i + 1)) dX2_parse_82 rfl 2 rfl (nI_1 i) (by decide) rfl ?_
            refine k_goto 85 21 C dX2_parse_85 (by decide) ?_
            first
              | exact ih (21 - (i + 1)) (by omega) _ (i + 1) _ _ _ rfl (by omega) (by first | exact Or.inl rfl | exact Or.inr rfl) (by first | exact Or.inl rfl | exact Or.inr rfl) q2 (by rw [← g2]; unfold pStep; rw [if_pos ⟨h55, Or.inl h64⟩]; congr 1; first | exact (bi_t h42).symm | exact (bi_f h42).symm) f4
              | exact ih (21 - (i + 1)) (by omega) _ (i + 1) _ _ _ rfl (by omega) (by first | exact Or.inl rfl | exact Or.inr rfl) (by first | exact Or.inl rfl | exact Or.inr rfl) q3 (by rw [← g2]; unfold pStep; rw [if_pos ⟨h55, Or.inr h73⟩]; congr 1; first | exact (bi_t h42).symm | exact (bi_f h42).symm) f6
              | exact ih (21 - (i + 1)) (by omega) _ (i + 1) _ _ _ rfl (by omega) (by first | exact Or.inl rfl | exact Or.inr rfl) (by first | exact Or.inl rfl | exact Or.inr rfl) q3 (by rw [← g2]; unfold pStep; rw [if_neg (fun zw => zw.2.elim h64 h73)]; congr 1; first | exact (bi_t h42).symm | exact (bi_f h42).symm) f6
              | exact ih (21 - (i + 1)) (by omega) _ (i + 1) _ _ _ rfl (by omega) (by first | exact Or.inl rfl | exact Or.inr rfl) (by first | exact Or.inl rfl | exact Or.inr rfl) q1 (by rw [← g2]; unfold pStep; rw [if_neg (fun zw => h55 zw.1)]; congr 1; first | exact (bi_t h42).symm | exact (bi_f h42).symm) f2
          · refine k_aload_n 58 59 C dX2_parse_58 rfl 3 rfl ?_
            refine k_bipush 59 61 C dX2_parse_59 rfl (v := 45) rfl ?_
            refine k_callVI 61 64 C [_] [] dX2_parse_61 rfl (ct_X2_accept hx q1 (by decide)) mi_X2_accept ml_X2_50 im_X2_accept se_X2_accept ci_X2 (IsTxt.o ‹_›) rfl rfl ⟨Nat.le_of_ble_eq_true rfl, Nat.le_of_ble_eq_true rfl⟩ (Nat.le_of_ble_eq_true rfl) (Nat.zero_le _) (Nat.zero_le _) (fun r61 V61 p61 => ?_)
            obtain ⟨rfl, q2, f3⟩ := p61
            have f4 := f2.trans f3
            refine k_ifb_ne 64 76 67 C dX2_parse_64 (by decide) rfl (fun h64 => ?_) (fun h64 => ?_)
            · rw [if_pos h64] at q2
              refine k_iconst 76 77 C dX2_parse_76 rfl (v := 1) rfl ?_
              refine k_goto 77 81 C dX2_parse_77 (by decide) ?_
              refine k_istore_n 81 82 C [(2, _), (1, _), (3, _), (0, _)] dX2_parse_81 rfl (by decide) rfl ?_
              refine k_iinc 82 85 C [(3, _), (2, _), (1, _), (0, _)] (nI (i + 1)) dX2_parse_82 rfl 2 rfl (nI_1 i) (by decide) rfl ?_
              refine k_goto 85 21 C dX2_parse_85 (by decide) ?_
              first
                | exact ih (21 - (i + 1)) (by omega) _ (i + 1) _ _ _ rfl (by omega) (by first | exact Or.inl rfl | exact Or.inr rfl) (by first | exact Or.inl rfl | exact Or.inr rfl) q2 (by rw [← g2]; unfold pStep; rw [if_pos ⟨h55, Or.inl h64⟩]; congr 1; first | exact (bi_t h42).symm | exact (bi_f h42).symm) f4
                | exact ih (21 - (i + 1)) (by omega) _ (i + 1) _ _ _ rfl (by omega) (by first | exact Or.inl rfl | exact Or.inr rfl) (by first | exact Or.inl rfl | exact Or.inr rfl) q3 (by rw [← g2]; unfold pStep; rw [if_pos ⟨h55, Or.inr h73⟩]; congr 1; first | exact (bi_t h42).symm | exact (bi_f h42).symm) f6
                | exact ih (21 - (i + 1)) (by omega) _ (i + 1) _ _ _ rfl (by omega) (by first | exact Or.inl rfl | exact Or.inr rfl) (by first | exact Or.inl rfl | exact Or.inr rfl) q3 (by rw [← g2]; unfold pStep; rw [if_neg (fun zw => zw.2.elim h64 h73)]; congr 1; first | exact (bi_t h42).symm | exact (bi_f h42).symm) f6
                | exact ih (21 - (i + 1)) (by omega) _ (i + 1) _ _ _ rfl (by omega) (by first | exact Or.inl rfl | exact Or.inr rfl) (by first | exact Or.inl rfl | exact Or.inr rfl) q1 (by rw [← g2]; unfold pStep; rw [if_neg (fun zw => h55 zw.1)]; congr 1; first | exact (bi_t h42).symm | exact (bi_f h42).symm) f2
            · rw [if_neg h64] at q2
              refine k_aload_n 67 68 C dX2_parse_67 rfl 3 rfl ?_
              refine k_bipush 68 70 C dX2_parse_68 rfl (v := 32) rfl ?_
              refine k_callVI 70 73 C [_] [] dX2_parse_70 rfl (ct_X2_accept hx q2 (by decide)) mi_X2_accept ml_X2_50 im_X2_accept se_X2_accept ci_X2 (IsTxt.o ‹_›) rfl rfl ⟨Nat.le_of_ble_eq_true rfl, Nat.le_of_ble_eq_true rfl⟩ (Nat.le_of_ble_eq_true rfl) (Nat.zero_le _) (Nat.zero_le _) (fun r70 V70 p70 => ?_)
              obtain ⟨rfl, q3, f5⟩ := p70
              have f6 := f4.trans f5
              refine k_ifb_eq 73 80 76 C dX2_parse_73 (by decide) rfl (fun h73 => ?_) (fun h73 => ?_)
              · rw [if_neg h73] at q3
                refine k_iconst 80 81 C dX2_parse_80 rfl (v := 0) rfl ?_
                refine k_istore_n 81 82 C [(2, _), (1, _), (3, _), (0, _)] dX2_parse_81 rfl (by decide) rfl ?_
                refine k_iinc 82 85 C [(3, _), (2, _), (1, _), (0, _)] (nI (i + 1)) dX2_parse_82 rfl 2 rfl (nI_1 i) (by decide) rfl ?_
                refine k_goto 85 21 C dX2_parse_85 (by decide) ?_
                first
                  | exact ih (21 - (i + 1)) (by omega) _ (i + 1) _ _ _ rfl (by omega) (by first | exact Or.inl rfl | exact Or.inr rfl) (by first | exact Or.inl rfl | exact Or.inr rfl) q2 (by rw [← g2]; unfold pStep; rw [if_pos ⟨h55, Or.inl h64⟩]; congr 1; first | exact (bi_t h42).symm | exact (bi_f h42).symm) f4
                  | exact ih (21 - (i + 1)) (by omega) _ (i + 1) _ _ _ rfl (by omega) (by first | exact Or.inl rfl | exact Or.inr rfl) (by first | exact Or.inl rfl | exact Or.inr rfl) q3 (by rw [← g2]; unfold pStep; rw [if_pos ⟨h55, Or.inr h73⟩]; congr 1; first | exact (bi_t h42).symm | exact (bi_f h42).symm) f6
                  | exact ih (21 - (i + 1)) (by omega) _ (i + 1) _ _ _ rfl (by omega) (by first | exact Or.inl rfl | exact Or.inr rfl) (by first | exact Or.inl rfl | exact Or.inr rfl) q3 (by rw [← g2]; unfold pStep; rw [if_neg (fun zw => zw.2.elim h64 h73)]; congr 1; first | exact (bi_t h42).symm | exact (bi_f h42).symm) f6
                  | exact ih (21 - (i + 1)) (by omega) _ (i + 1) _ _ _ rfl (by omega) (by first | exact Or.inl rfl | exact Or.inr rfl) (by first | exact Or.inl rfl | exact Or.inr rfl) q1 (by rw [← g2]; unfold pStep; rw [if_neg (fun zw => h55 zw.1)]; congr 1; first | exact (bi_t h42).symm | exact (bi_f h42).symm) f2
              · rw [if_pos h73] at q3
                refine k_iconst 76 77 C dX2_parse_76 rfl (v := 1) rfl ?_
                refine k_goto 77 81 C dX2_parse_77 (by decide) ?_
                refine k_istore_n 81 82 C [(2, _), (1, _), (3, _), (0, _)] dX2_parse_81 rfl (by decide) rfl ?_
                refine k_iinc 82 85 C [(3, _), (2, _), (1, _), (0, _)] (nI (i + 1)) dX2_parse_82 rfl 2 rfl (nI_1 i) (by decide) rfl ?_
                refine k_goto 85 21 C dX2_parse_85 (by decide) ?_
                first
                  | exact ih (21 - (i + 1)) (by omega) _ (i + 1) _ _ _ rfl (by omega) (by first | exact Or.inl rfl | exact Or.inr rfl) (by first | exact Or.inl rfl | exact Or.inr rfl) q2 (by rw [← g2]; unfold pStep; rw [if_pos ⟨h55, Or.inl h64⟩]; congr 1; first | exact (bi_t h42).symm | exact (bi_f h42).symm) f4
                  | exact ih (21 - (i + 1)) (by omega) _ (i + 1) _ _ _ rfl (by omega) (by first | exact Or.inl rfl | exact Or.inr rfl) (by first | exact Or.inl rfl | exact Or.inr rfl) q3 (by rw [← g2]; unfold pStep; rw [if_pos ⟨h55, Or.inr h73⟩]; congr 1; first | exact (bi_t h42).symm | exact (bi_f h42).symm) f6
                  | exact ih (21 - (i + 1)) (by omega) _ (i + 1) _ _ _ rfl (by omega) (by first | exact Or.inl rfl | exact Or.inr rfl) (by first | exact Or.inl rfl | exact Or.inr rfl) q3 (by rw [← g2]; unfold pStep; rw [if_neg (fun zw => zw.2.elim h64 h73)]; congr 1; first | exact (bi_t h42).symm | exact (bi_f h42).symm) f6
                  | exact ih (21 - (i + 1)) (by omega) _ (i + 1) _ _ _ rfl (by omega) (by first | exact Or.inl rfl | exact Or.inr rfl) (by first | exact Or.inl rfl | exact Or.inr rfl) q1 (by rw [← g2]; unfold pStep; rw [if_neg (fun zw => h55 zw.1)]; congr 1; first | exact (bi_t h42).symm | exact (bi_f h42).symm) f2
        · refine k_iconst 45 46 C dX2_parse_45 rfl (v := 1) rfl ?_
          refine k_goto 46 50 C dX2_parse_46 (by decide) ?_
          refine k_istore_n 50 51 C [(1, _), (3, _), (2, _), (0, _)] dX2_parse_50 rfl (by decide) rfl ?_
          refine k_aload_n 51 52 C dX2_parse_51 rfl 3 rfl ?_
          refine k_get 52 55 C dX2_parse_52 rfl ci_X2 4 fl_X2_25 (IsTxt.o ‹_›) (by decide) rfl ?_
          refine k_rwI (y := prs (pPoint cs n P1 jb)) q1.rs ?_
          refine k_if_ne 55 80 58 C dX2_parse_55 (by decide) rfl (fun h55 => ?_) (fun h55 => ?_)
          · refine k_iconst 80 81 C dX2_parse_80 rfl (v := 0) rfl ?_
            refine k_istore_n 81 82 C [(2, _), (1, _), (3, _), (0, _)] dX2_parse_81 rfl (by decide) rfl ?_
            refine k_iinc 82 85 C [(3, _), (2, _), (1, _), (0, _)] (nI (i + 1)) dX2_parse_82 rfl 2 rfl (nI_1 i) (by decide) rfl ?_
            refine k_goto 85 21 C dX2_parse_85 (by decide) ?_
            first
              | exact ih (21 - (i + 1)) (by omega) _ (i + 1) _ _ _ rfl (by omega) (by first | exact Or.inl rfl | exact Or.inr rfl) (by first | exact Or.inl rfl | exact Or.inr rfl) q2 (by rw [← g2]; unfold pStep; rw [if_pos ⟨h55, Or.inl h64⟩]; congr 1; first | exact (bi_t h42).symm | exact (bi_f h42).symm) f4
              | exact ih (21 - (i + 1)) (by omega) _ (i + 1) _ _ _ rfl (by omega) (by first | exact Or.inl rfl | exact Or.inr rfl) (by first | exact Or.inl rfl | exact Or.inr rfl) q3 (by rw [← g2]; unfold pStep; rw [if_pos ⟨h55, Or.inr h73⟩]; congr 1; first | exact (bi_t h42).symm | exact (bi_f h42).symm) f6
              | exact ih (21 - (i + 1)) (by omega) _ (i + 1) _ _ _ rfl (by omega) (by first | exact Or.inl rfl | exact Or.inr rfl) (by first | exact Or.inl rfl | exact Or.inr rfl) q3 (by rw [← g2]; unfold pStep; rw [if_neg (fun zw => zw.2.elim h64 h73)]; congr 1; first | exact (bi_t h42).symm | exact (bi_f h42).symm) f6
              | exact ih (21 - (i + 1)) (by omega) _ (i + 1) _ _ _ rfl (by omega) (by first | exact Or.inl rfl | exact Or.inr rfl) (by first | exact Or.inl rfl | exact Or.inr rfl) q1 (by rw [← g2]; unfold pStep; rw [if_neg (fun zw => h55 zw.1)]; congr 1; first | exact (bi_t h42).symm | exact (bi_f h42).symm) f2
          · refine k_aload_n 58 59 C dX2_parse_58 rfl 3 rfl ?_
            refine k_bipush 59 61 C dX2_parse_59 rfl (v := 45) rfl ?_
            refine k_callVI 61 64 C [_] [] dX2_parse_61 rfl (ct_X2_accept hx q1 (by decide)) mi_X2_accept ml_X2_50 im_X2_accept se_X2_accept ci_X2 (IsTxt.o ‹_›) rfl rfl ⟨Nat.le_of_ble_eq_true rfl, Nat.le_of_ble_eq_true rfl⟩ (Nat.le_of_ble_eq_true rfl) (Nat.zero_le _) (Nat.zero_le _) (fun r61 V61 p61 => ?_)
            obtain ⟨rfl, q2, f3⟩ := p61
            have f4 := f2.trans f3
            refine k_ifb_ne 64 76 67 C dX2_parse_64 (by decide) rfl (fun h64 => ?_) (fun h64 => ?_)
            · rw [if_pos h64] at q2
              refine k_iconst 76 77 C dX2_parse_76 rfl (v := 1) rfl ?_
              refine k_goto 77 81 C dX2_parse_77 (by decide) ?_
              refine k_istore_n 81 82 C [(2, _), (1, _), (3, _), (0, _)] dX2_parse_81 rfl (by decide) rfl ?_
              refine k_iinc 82 85 C [(3, _), (2, _), (1, _), (0, _)] (nI (i + 1)) dX2_parse_82 rfl 2 rfl (nI_1 i) (by decide) rfl ?_
              refine k_goto 85 21 C dX2_parse_85 (by decide) ?_
              first
                | exact ih (21 - (i + 1)) (by omega) _ (i + 1) _ _ _ rfl (by omega) (by first | exact Or.inl rfl | exact Or.inr rfl) (by first | exact Or.inl rfl | exact Or.inr rfl) q2 (by rw [← g2]; unfold pStep; rw [if_pos ⟨h55, Or.inl h64⟩]; congr 1; first | exact (bi_t h42).symm | exact (bi_f h42).symm) f4
                | exact ih (21 - (i + 1)) (by omega) _ (i + 1) _ _ _ rfl (by omega) (by first | exact Or.inl rfl | exact Or.inr rfl) (by first | exact Or.inl rfl | exact Or.inr rfl) q3 (by rw [← g2]; unfold pStep; rw [if_pos ⟨h55, Or.inr h73⟩]; congr 1; first | exact (bi_t h42).symm | exact (bi_f h42).symm) f6
                | exact ih (21 - (i + 1)) (by omega) _ (i + 1) _ _ _ rfl (by omega) (by first | exact Or.inl rfl | exact Or.inr rfl) (by first | exact Or.inl rfl | exact Or.inr rfl) q3 (by rw [← g2]; unfold pStep; rw [if_neg (fun zw => zw.2.elim h64 h73)]; congr 1; first | exact (bi_t h42).symm | exact (bi_f h42).symm) f6
                | exact ih (21 - (i + 1)) (by omega) _ (i + 1) _ _ _ rfl (by omega) (by first | exact Or.inl rfl | exact Or.inr rfl) (by first | exact Or.inl rfl | exact Or.inr rfl) q1 (by rw [← g2]; unfold pStep; rw [if_neg (fun zw => h55 zw.1)]; congr 1; first | exact (bi_t h42).symm | exact (bi_f h42).symm) f2
            · rw [if_neg h64] at q2
              refine k_aload_n 67 68 C dX2_parse_67 rfl 3 rfl ?_
              refine k_bipush 68 70 C dX2_parse_68 rfl (v := 32) rfl ?_
              refine k_callVI 70 73 C [_] [] dX2_parse_70 rfl (ct_X2_accept hx q2 (by decide)) mi_X2_accept ml_X2_50 im_X2_accept se_X2_accept ci_X2 (IsTxt.o ‹_›) rfl rfl ⟨Nat.le_of_ble_eq_true rfl, Nat.le_of_ble_eq_true rfl⟩ (Nat.le_of_ble_eq_true rfl) (Nat.zero_le _) (Nat.zero_le _) (fun r70 V70 p70 => ?_)
              obtain ⟨rfl, q3, f5⟩ := p70
              have f6 := f4.trans f5
              refine k_ifb_eq 73 80 76 C dX2_parse_73 (by decide) rfl (fun h73 => ?_) (fun h73 => ?_)
              · rw [if_neg h73] at q3
                refine k_iconst 80 81 C dX2_parse_80 rfl (v := 0) rfl ?_
                refine k_istore_n 81 82 C [(2, _), (1, _), (3, _), (0, _)] dX2_parse_81 rfl (by decide) rfl ?_
                refine k_iinc 82 85 C [(3, _), (2, _), (1, _), (0, _)] (nI (i + 1)) dX2_parse_82 rfl 2 rfl (nI_1 i) (by decide) rfl ?_
                refine k_goto 85 21 C dX2_parse_85 (by decide) ?_
                first
                  | exact ih (21 - (i + 1)) (by omega) _ (i + 1) _ _ _ rfl (by omega) (by first | exact Or.inl rfl | exact Or.inr rfl) (by first | exact Or.inl rfl | exact Or.inr rfl) q2 (by rw [← g2]; unfold pStep; rw [if_pos ⟨h55, Or.inl h64⟩]; congr 1; first | exact (bi_t h42).symm | exact (bi_f h42).symm) f4
                  | exact ih (21 - (i + 1)) (by omega) _ (i + 1) _ _ _ rfl (by omega) (by first | exact Or.inl rfl | exact Or.inr rfl) (by first | exact Or.inl rfl | exact Or.inr rfl) q3 (by rw [← g2]; unfold pStep; rw [if_pos ⟨h55, Or.inr h73⟩]; congr 1; first | exact (bi_t h42).symm | exact (bi_f h42).symm) f6
                  | exact ih (21 - (i + 1)) (by omega) _ (i + 1) _ _ _ rfl (by omega) (by first | exact Or.inl rfl | exact Or.inr rfl) (by first | exact Or.inl rfl | exact Or.inr rfl) q3 (by rw [← g2]; unfold pStep; rw [if_neg (fun zw => zw.2.elim h64 h73)]; congr 1; first | exact (bi_t h42).symm | exact (bi_f h42).symm) f6
                  | exact ih (21 - (i + 1)) (by omega) _ (i + 1) _ _ _ rfl (by omega) (by first | exact Or.inl rfl | exact Or.inr rfl) (by first | exact Or.inl rfl | exact Or.inr rfl) q1 (by rw [← g2]; unfold pStep; rw [if_neg (fun zw => h55 zw.1)]; congr 1; first | exact (bi_t h42).symm | exact (bi_f h42).symm) f2
              · rw [if_pos h73] at q3
                refine k_iconst 76 77 C dX2_parse_76 rfl (v := 1) rfl ?_
                refine k_goto 77 81 C dX2_parse_77 (by decide) ?_
                refine k_istore_n 81 82 C [(2, _), (1, _), (3, _), (0, _)] dX2_parse_81 rfl (by decide) rfl ?_
                refine k_iinc 82 85 C [(3, _), (2, _), (1, _), (0, _)] (nI (i + 1)) dX2_parse_82 rfl 2 rfl (nI_1 i) (by decide) rfl ?_
                refine k_goto 85 21 C dX2_parse_85 (by decide) ?_
                first
                  | exact ih (21 - (i + 1)) (by omega) _ (i + 1) _ _ _ rfl (by omega) (by first | exact Or.inl rfl | exact Or.inr rfl) (by first | exact Or.inl rfl | exact Or.inr rfl) q2 (by rw [← g2]; unfold pStep; rw [if_pos ⟨h55, Or.inl h64⟩]; congr 1; first | exact (bi_t h42).symm | exact (bi_f h42).symm) f4
                  | exact ih (21 - (i + 1)) (by omega) _ (i + 1) _ _ _ rfl (by omega) (by first | exact Or.inl rfl | exact Or.inr rfl) (by first | exact Or.inl rfl | exact Or.inr rfl) q3 (by rw [← g2]; unfold pStep; rw [if_pos ⟨h55, Or.inr h73⟩]; congr 1; first | exact (bi_t h42).symm | exact (bi_f h42).symm) f6
                  | exact ih (21 - (i + 1)) (by omega) _ (i + 1) _ _ _ rfl (by omega) (by first | exact Or.inl rfl | exact Or.inr rfl) (by first | exact Or.inl rfl | exact Or.inr rfl) q3 (by rw [← g2]; unfold pStep; rw [if_neg (fun zw => zw.2.elim h64 h73)]; congr 1; first | exact (bi_t h42).symm | exact (bi_f h42).symm) f6
                  | exact ih (21 - (i + 1)) (by omega) _ (i + 1) _ _ _ rfl (by omega) (by first | exact Or.inl rfl | exact Or.inr rfl) (by first | exact Or.inl rfl | exact Or.inr rfl) q1 (by rw [← g2]; unfold pStep; rw [if_neg (fun zw => h55 zw.1)]; congr 1; first | exact (bi_t h42).symm | exact (bi_f h42).symm) f2
  refine k_aload_n 0 1 C dX2_parse_0 rfl 0 rfl ?_
  refine k_iconst 1 2 C dX2_parse_1 rfl (v := 0) rfl ?_
  refine k_put 2 5 C dX2_parse_2 rfl ci_X2 2 fl_X2_19 (IsTxt.o ‹_›) (by decide) rfl rfl rfl wI_off (ps_2_2 _ _ _ _) ?_
  refine k_aload_n 5 6 C dX2_parse_5 rfl 0 rfl ?_
  refine k_iconst 6 7 C dX2_parse_6 rfl (v := 0) rfl ?_
  refine k_put 7 10 C dX2_parse_7 rfl ci_X2 8 fl_X2_39 (IsTxt.o ‹_›) (by decide) rfl rfl rfl wI_off (ps_2_8 _ _ _ _) ?_
  refine k_aload_n 10 11 C dX2_parse_10 rfl 0 rfl ?_
  refine k_iconst 11 12 C dX2_parse_11 rfl (v := 0) rfl ?_
  refine k_put 12 15 C dX2_parse_12 rfl ci_X2 4 fl_X2_25 (IsTxt.o ‹_›) (by decide) rfl rfl rfl wI_off (ps_2_4 _ _ _ _) ?_
  refine k_iconst 15 16 C dX2_parse_15 rfl (v := 0) rfl ?_
  refine k_istore_n 16 17 C [(1, _), (0, _)] dX2_parse_16 rfl (by decide) rfl ?_
  refine k_iconst 17 18 C dX2_parse_17 rfl (v := 1) rfl ?_
  refine k_istore_n 18 19 C [(2, _), (1, _), (0, _)] dX2_parse_18 rfl (by decide) rfl ?_
  refine k_iconst 19 20 C dX2_parse_19 rfl (v := 0) rfl ?_
  refine k_istore_n 20 21 C [(3, _), (2, _), (1, _), (0, _)] dX2_parse_20 rfl (by decide) rfl ?_
  refine loop21 _ _ 0 (0, V.1 t 3, 0, 0, V.1 (t + 2), V.1 (t + 3), V.1 (t + 4)) 0 1 rfl (Nat.zero_le _) (Or.inl rfl) (Or.inr rfl) ?_ hG.symm (((Off.rf.wI (Nat.le_refl t) (by omega)).wI (Nat.le_refl t) (by omega)).wI (Nat.le_refl t) (by omega))
  exact ⟨((hcc.fld (by decide)).fld (by decide)).fld (by decide), by simp [wI, upd, pat, nI], Nat.zero_le _, by simp [wI, upd, pfa], by simp [wI, upd, prs], by simp [wI, upd, pm, nI], Nat.zero_le _, fun i hi => absurd hi (Nat.not_lt_zero i)⟩
theorem zchar2 {x : Int32} (h : 32 ≤ x.toInt ∧ x.toInt ≤ 126) : vp_nar .char x = x := by
  have := zchar h
  unfold vp_nar
  rw [this]
theorem TC.app {V : gV} {t n : Nat} {cs : Nat → Int32} {ch : Int32} (h : TC V t cs n) (hn : n < 100) (hc : 32 ≤ ch.toInt ∧ ch.toInt ≤ 126) : TC (wI (wI V (t + 1) n ch) t 1 (nI (n + 1))) t (va_up cs n ch) (n + 1) := by
  obtain ⟨g1, g2, g3⟩ := h
  refine ⟨by simp [wI, upd], by omega, fun i hi => ?_⟩
  by_cases e : i = n
  · subst e; simp [wI, upd, va_up]; exact hc
  · have := g3 i (by omega)
    simp [wI, upd, va_up, e]
    exact this
set_option maxHeartbeats 4000000 in
set_option maxRecDepth 100000 in
theorem ct_X2_append {E : gE} {T : gT} {l : Launch} {V : gV} {ch : Int32} {t n : Nat} {cs : Nat → Int32} (hx : IsTxt T t) (hcc : TC V t cs n) (hc : 32 ≤ ch.toInt ∧ ch.toInt ≤ 126) : CtI E T l yX2_append (gw yX2_append cX2_append 2 (some .boolean)) { frames := 0, cells := 0, slots := 0, locals := 0 } [.ref t, .int ch] V (fun (r : Int32) (V' : gV) => r = bi (n < 100) ∧ (n < 100 → TC V' t (va_up cs n ch) (n + 1)) ∧ (¬ n < 100 → TC V' t cs n) ∧ Off V V' t (t + 5)) := by
  refine ctI_of (L := [(0, .ref t), (1, .int ch)]) (by decide) rfl (Nat.le_of_ble_eq_true rfl) rfl (fun p e s m args below meth c C => ?_)
  refine k_aload_n 0 1 C dX2_append_0 rfl 0 rfl ?_
  refine k_get 1 4 C dX2_append_1 rfl ci_X2 1 fl_X2_15 (IsTxt.o ‹_›) (by decide) rfl ?_
  refine k_rwI (hcc.1) ?_
  refine k_if_lt 4 19 7 C dX2_append_4 (by decide) rfl (fun h4 => ?_) (fun h4 => ?_)
  · exact absurd h4 (nI_pos (by have := hcc.2.1; omega))
  · refine k_aload_n 7 8 C dX2_append_7 rfl 0 rfl ?_
    refine k_get 8 11 C dX2_append_8 rfl ci_X2 1 fl_X2_15 (IsTxt.o ‹_›) (by decide) rfl ?_
    refine k_rwI (hcc.1) ?_
    refine k_aload_n 11 12 C dX2_append_11 rfl 0 rfl ?_
    refine k_getF 12 15 C dX2_append_12 rfl ci_X2 0 fl_X2_9 (IsTxt.o ‹_›) (by decide) (IsTxt.f0 ‹_›) rfl ?_
    refine k_alen 15 16 C dX2_append_15 rfl (IsTxt.a0 ‹_›) (by decide) (v := 100) rfl ?_
    refine k_icmp_lt 16 21 19 C dX2_append_16 (by decide) rfl (fun h16 => ?_) (fun h16 => ?_)
    · have z16 : nI n < nI 100 := h16
      rw [nI_ltI (by have := hcc.2.1; omega) (by omega)] at z16
      refine k_aload_n 21 22 C dX2_append_21 rfl 0 rfl ?_
      refine k_getF 22 25 C dX2_append_22 rfl ci_X2 0 fl_X2_9 (IsTxt.o ‹_›) (by decide) (IsTxt.f0 ‹_›) rfl ?_
      refine k_aload_n 25 26 C dX2_append_25 rfl 0 rfl ?_
      refine k_get 26 29 C dX2_append_26 rfl ci_X2 1 fl_X2_15 (IsTxt.o ‹_›) (by decide) rfl ?_
      refine k_rwI (hcc.1) ?_
      refine k_iload_n 29 30 C dX2_append_29 rfl 1 rfl ?_
      refine k_cast 30 31 C dX2_append_30 rfl (IsTxt.a0 ‹_›) (vp_in_nI z16 (by decide)) ?_
      rw [nI_clamp (show n < 2 ^ 31 by omega), show vp_nar .char ch = ch from zchar2 hc]
      refine k_aload_n 31 32 C dX2_append_31 rfl 0 rfl ?_
      refine k_dup 32 33 C dX2_append_32 rfl rfl ?_
      refine k_get 33 36 C dX2_append_33 rfl ci_X2 1 fl_X2_15 (IsTxt.o ‹_›) (by decide) rfl ?_
      refine k_rwI (y := nI n) (by simp [wI]; exact hcc.1) ?_
      refine k_iconst 36 37 C dX2_append_36 rfl (v := 1) rfl ?_
      refine k_iadd 37 38 C dX2_append_37 rfl  ?_
      refine k_rwI (nI_1 _) ?_
      refine k_put 38 41 C dX2_append_38 rfl ci_X2 1 fl_X2_15 (IsTxt.o ‹_›) (by decide) rfl rfl rfl wI_off (ps_2_1 _ _ _ _) ?_
      refine k_iconst 41 42 C dX2_append_41 rfl (v := 1) rfl ?_
      refine k_zret 42 C dX2_append_42 rfl (by first | exact Or.inl rfl | exact Or.inr rfl | exact bi_01) ?_
      exact ⟨(bi_t z16).symm, fun _ => hcc.app z16 hc, fun zz => absurd z16 zz, (by repeat (first | exact Off.rf | refine Off.wI ?_ (by omega) (by omega)))⟩
    · have z16 : ¬ nI n < nI 100 := h16
      rw [nI_ltI (by have := hcc.2.1; omega) (by omega)] at z16
      refine k_iconst 19 20 C dX2_append_19 rfl (v := 0) rfl ?_
      refine k_zret 20 C dX2_append_20 rfl (by first | exact Or.inl rfl | exact Or.inr rfl | exact bi_01) ?_
      exact ⟨(bi_f z16).symm, fun zz => absurd zz z16, fun _ => hcc, Off.rf⟩
def apD (P : Pt) (d : Dr) : Nat → Dr
  | 0 => d
  | i + 1 => dAdd (apD P d i) (pxs P i).toInt64 (pys P i).toInt64 (if pjn P i = 0 then -1 else 1)
theorem apD_n (P : Pt) (d : Dr) : ∀ i, rn (apD P d i) = rn d + i
  | 0 => rfl
  | i + 1 => by show rn (apD P d i) + 1 = _; rw [apD_n P d i]; omega
set_option maxHeartbeats 4000000 in
set_option maxRecDepth 100000 in
theorem ct_X2_addPointsTo {E : gE} {T : gT} {l : Launch} {V : gV} {t n a : Nat} {cs : Nat → Int32} {P : Pt} {d : Dr} (hx : IsTxt T t) (ht : TX V t cs n P) (ha : IsDrw T a) (hd : DV V a d) (h0 : rn d = 0) (hap : t + 5 ≤ a ∨ a + 4 ≤ t) : CtV E T l yX2_addPointsTo (gw yX2_addPointsTo cX2_addPointsTo 3 none) { frames := 1, cells := 0, slots := 0, locals := 25 } [.ref t, .ref a] V (fun (V' : gV) => DV V' a (apD P d (pm P)) ∧ Off V V' a (a + 4)) := by
  refine ctV_of (L := [(0, .ref t), (1, .ref a)]) (by decide) rfl (Nat.le_of_ble_eq_true rfl) rfl (fun p e s m args below meth c C => ?_)
  have loop2 : ∀ (f : Nat) (V1 : gV) (i : Nat), pm P - i = f → (i ≤ pm P) → (DV V1 a (apD P d i)) → (Off V V1 a (a + 4)) → KW E T V1 p l e { frames := 1, cells := 0, slots := 0, locals := 25 } s m args below meth c 3 0 0 (MQ below (va_Qv (fun (V' : gV) => DV V' a (apD P d (pm P)) ∧ Off V V' a (a + 4)) (RepS E T) (gA E)) args s 0 0 (gA E)) 2 [(2, .int (nI i)), (0, .ref t), (1, .ref a)] [] := by
    intro f
    induction f using Nat.strongRecOn with
    | _ f ih =>
    intro V1 i hf hi g1 g2
    have e0 := (g2 t (by omega)).1
    have e2 := (g2 (t + 2) (by omega)).1
    have e3 := (g2 (t + 3) (by omega)).1
    have e4 := (g2 (t + 4) (by omega)).1
    have z20 := ht.m20
    refine k_iload_n 2 3 C dX2_addPointsTo_2 rfl 0 rfl ?_
    refine k_aload_n 3 4 C dX2_addPointsTo_3 rfl 1 rfl ?_
    refine k_get 4 7 C dX2_addPointsTo_4 rfl ci_X2 8 fl_X2_39 (IsTxt.o ‹_›) (by decide) rfl ?_
    refine k_rwI (y := nI (pm P)) (by rw [e0]; exact ht.m) ?_
    refine k_icmp_ge 7 75 10 C dX2_addPointsTo_7 (by decide) rfl (fun h7 => ?_) (fun h7 => ?_)
    · rw [n21 (by omega) (by omega)] at h7
      obtain rfl : i = pm P := by omega
      refine k_vret 75 C dX2_addPointsTo_75 rfl ?_
      exact ⟨g1, g2⟩
    · rw [n21 (by omega) (by omega)] at h7
      have zl : i < pm P := by omega
      refine k_iload_n 10 11 C dX2_addPointsTo_10 rfl 0 rfl ?_
      refine k_aload_n 11 12 C dX2_addPointsTo_11 rfl 1 rfl ?_
      refine k_getF 12 15 C dX2_addPointsTo_12 rfl ci_X2 5 fl_X2_28 (IsTxt.o ‹_›) (by decide) (IsTxt.f5 ‹_›) rfl ?_
      refine k_alen 15 16 C dX2_addPointsTo_15 rfl (IsTxt.a5 ‹_›) (by decide) (v := 20) rfl ?_
      refine k_icmp_ge 16 75 19 C dX2_addPointsTo_16 (by decide) rfl (fun h16 => ?_) (fun h16 => ?_)
      · exact absurd (show nI 20 ≤ nI i from h16) (by rw [n21 (by omega) (by omega)]; omega)
      · refine k_iload_n 19 20 C dX2_addPointsTo_19 rfl 0 rfl ?_
        refine k_aload_n 20 21 C dX2_addPointsTo_20 rfl 1 rfl ?_
        refine k_getF 21 24 C dX2_addPointsTo_21 rfl ci_X2 6 fl_X2_32 (IsTxt.o ‹_›) (by decide) (IsTxt.f6 ‹_›) rfl ?_
        refine k_alen 24 25 C dX2_addPointsTo_24 rfl (IsTxt.a6 ‹_›) (by decide) (v := 20) rfl ?_
        refine k_icmp_ge 25 75 28 C dX2_addPointsTo_25 (by decide) rfl (fun h25 => ?_) (fun h25 => ?_)
        · exact absurd (show nI 20 ≤ nI i from h25) (by rw [n21 (by omega) (by omega)]; omega)
        · refine k_iload_n 28 29 C dX2_addPointsTo_28 rfl 0 rfl ?_
          refine k_aload_n 29 30 C dX2_addPointsTo_29 rfl 1 rfl ?_
          refine k_getF 30 33 C dX2_addPointsTo_30 rfl ci_X2 7 fl_X2_35 (IsTxt.o ‹_›) (by decide) (IsTxt.f7 ‹_›) rfl ?_
          refine k_alen 33 34 C dX2_addPointsTo_33 rfl (IsTxt.a7 ‹_›) (by decide) (v := 20) rfl ?_
          refine k_icmp_ge 34 75 37 C dX2_addPointsTo_34 (by decide) rfl (fun h34 => ?_) (fun h34 => ?_)
          · exact absurd (show nI 20 ≤ nI i from h34) (by rw [n21 (by omega) (by omega)]; omega)
          · refine k_aload_n 37 38 C dX2_addPointsTo_37 rfl 2 rfl ?_
            refine k_aload_n 38 39 C dX2_addPointsTo_38 rfl 1 rfl ?_
            refine k_getF 39 42 C dX2_addPointsTo_39 rfl ci_X2 5 fl_X2_28 (IsTxt.o ‹_›) (by decide) (IsTxt.f5 ‹_›) rfl ?_
            refine k_iload_n 42 43 C dX2_addPointsTo_42 rfl 0 rfl ?_
            refine k_iald 43 44 C dX2_addPointsTo_43 rfl (IsTxt.a5 ‹_›) (vp_in_nI (show i < 20 by omega) (by decide)) ?_
            rw [nI_clamp (show i < 2 ^ 31 by omega)]
            refine k_rwI (y := pxs P i) (by rw [e2]; exact (ht.pt i zl).1) ?_
            refine k_i2l 44 45 C dX2_addPointsTo_44 rfl  ?_
            refine k_aload_n 45 46 C dX2_addPointsTo_45 rfl 1 rfl ?_
            refine k_getF 46 49 C dX2_addPointsTo_46 rfl ci_X2 6 fl_X2_32 (IsTxt.o ‹_›) (by decide) (IsTxt.f6 ‹_›) rfl ?_
            refine k_iload_n 49 50 C dX2_addPointsTo_49 rfl 0 rfl ?_
            refine k_iald 50 51 C dX2_addPointsTo_50 rfl (IsTxt.a6 ‹_›) (vp_in_nI (show i < 20 by omega) (by decide)) ?_
            rw [nI_clamp (show i < 2 ^ 31 by omega)]
            refine k_rwI (y := pys P i) (by rw [e3]; exact (ht.pt i zl).2.1) ?_
            refine k_i2l 51 52 C dX2_addPointsTo_51 rfl  ?_
            refine k_aload_n 52 53 C dX2_addPointsTo_52 rfl 1 rfl ?_
            refine k_getF 53 56 C dX2_addPointsTo_53 rfl ci_X2 7 fl_X2_35 (IsTxt.o ‹_›) (by decide) (IsTxt.f7 ‹_›) rfl ?_
            refine k_iload_n 56 57 C dX2_addPointsTo_56 rfl 0 rfl ?_
            refine k_zald 57 58 C dX2_addPointsTo_57 rfl (IsTxt.a7 ‹_›) (vp_in_nI (show i < 20 by omega) (by decide)) ?_
            rw [nI_clamp (show i < 2 ^ 31 by omega)]
            refine k_rwI (y := pjn P i) (by rw [e4]; exact (ht.pt i zl).2.2) ?_
            refine k_if_eq 58 65 61 C dX2_addPointsTo_58 (by decide) rfl (fun h58 => ?_) (fun h58 => ?_)
            · refine k_iconst 65 66 C dX2_addPointsTo_65 rfl (v := (-1)) rfl ?_
              refine k_callVV 66 69 C [_, _, _] [] dX2_addPointsTo_66 rfl (ct_X1_add ha g1 (by rw [apD_n]; omega)) mi_X1_add ml_X2_72 im_X1_add se_X1_add ci_X1 (IsDrw.o ‹_›) rfl rfl ⟨Nat.le_of_ble_eq_true rfl, Nat.le_of_ble_eq_true rfl⟩ (Nat.le_of_ble_eq_true rfl) (Nat.zero_le _) (Nat.zero_le _) (fun V66 p66 => ?_)
              refine k_iinc 69 72 C [(2, _), (0, _), (1, _)] (nI (i + 1)) dX2_addPointsTo_69 rfl 0 rfl (nI_1 i) (by decide) rfl ?_
              refine k_goto 72 2 C dX2_addPointsTo_72 (by decide) ?_
              have zs : DV V66 a (apD P d (i + 1)) := by
                show DV V66 a (dAdd _ _ _ _)
                first | (rw [if_pos h58]; exact p66.1) | (rw [if_neg h58]; exact p66.1)
              exact ih (pm P - (i + 1)) (by omega) V66 (i + 1) rfl (by omega) zs (g2.trans p66.2)
            · refine k_iconst 61 62 C dX2_addPointsTo_61 rfl (v := 1) rfl ?_
              refine k_goto 62 66 C dX2_addPointsTo_62 (by decide) ?_
              refine k_callVV 66 69 C [_, _, _] [] dX2_addPointsTo_66 rfl (ct_X1_add ha g1 (by rw [apD_n]; omega)) mi_X1_add ml_X2_72 im_X1_add se_X1_add ci_X1 (IsDrw.o ‹_›) rfl rfl ⟨Nat.le_of_ble_eq_true rfl, Nat.le_of_ble_eq_true rfl⟩ (Nat.le_of_ble_eq_true rfl) (Nat.zero_le _) (Nat.zero_le _) (fun V66 p66 => ?_)
              refine k_iinc 69 72 C [(2, _), (0, _), (1, _)] (nI (i + 1)) dX2_addPointsTo_69 rfl 0 rfl (nI_1 i) (by decide) rfl ?_
              refine k_goto 72 2 C dX2_addPointsTo_72 (by decide) ?_
              have zs : DV V66 a (apD P d (i + 1)) := by
                show DV V66 a (dAdd _ _ _ _)
                first | (rw [if_pos h58]; exact p66.1) | (rw [if_neg h58]; exact p66.1)
              exact ih (pm P - (i + 1)) (by omega) V66 (i + 1) rfl (by omega) zs (g2.trans p66.2)
  refine k_iconst 0 1 C dX2_addPointsTo_0 rfl (v := 0) rfl ?_
  refine k_istore_n 1 2 C [(2, _), (0, _), (1, _)] dX2_addPointsTo_1 rfl (by decide) rfl ?_
  exact loop2 _ V 0 rfl (Nat.zero_le _) hd Off.rf

