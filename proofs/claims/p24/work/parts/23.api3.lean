set_option maxHeartbeats 4000000 in
set_option maxRecDepth 100000 in
theorem ct_X3_armFor {E : gE} {T : gT} {l : Launch} {V : gV} {i j : Int32} {a : Nat} {S : Dk} {h : Nat} {H : Nat → Dk} {r0 : Nat} {ρ : Nat → Nat} (hA : IsAll T a) (g : AVp V a S h H r0 ρ) : CtI E T l yX3_armFor (gw yX3_armFor cX3_armFor 13 (some .int)) { frames := 2, cells := 0, slots := 0, locals := 58 } [.ref a, .int i, .int j] V (fun (r : Int32) (V' : gV) => V' = V ∧ r = cArF S i j) := by
  refine ctI_of (L := [(0, .ref a), (1, .int i), (2, .int j)]) (by decide) rfl (Nat.le_of_ble_eq_true rfl) rfl (fun p e s m args below meth c C => ?_)
  obtain ⟨π, hk⟩ := g.dk
  have hD := hA.2 _ g.r5
  have ha := hA.a
  have zn6 := hk.le
  refine k_aload_n 0 1 C dX3_armFor_0 rfl 0 rfl ?_
  refine k_get 1 4 C dX3_armFor_1 rfl ci_X3 0 fl_X3_10 (IsArm.o ‹_›) (by decide) rfl ?_
  refine k_rwQ (g.now) ?_
  refine k_iload_n 4 5 C dX3_armFor_4 rfl 1 rfl ?_
  refine k_callVQ 5 8 C [_] [] dX3_armFor_5 rfl (ct_X0_find hD hk) mi_X0_find ml_X3_100 im_X0_find se_X0_find ci_X0 (IsDsk.o ‹_›) rfl rfl ⟨Nat.le_of_ble_eq_true rfl, Nat.le_of_ble_eq_true rfl⟩ (Nat.le_of_ble_eq_true rfl) (Nat.zero_le _) (Nat.zero_le _) (fun r5 V5 p5 => ?_)
  obtain ⟨rfl, rfl⟩ := And.intro p5.1.symm p5.2
  rcases sFind_cases (dAd a r0) S π hk.le i with ⟨zcA, zrA⟩ | ⟨u, zjA, rfl, zrA⟩
  · refine k_rwQ zrA ?_
    refine k_astore_nq 8 9 C [(3, _), (0, _), (1, _), (2, _)] dX3_armFor_8 rfl (by decide) rfl ?_
    refine k_aload_n 9 10 C dX3_armFor_9 rfl 1 rfl ?_
    refine k_get 10 13 C dX3_armFor_10 rfl ci_X3 0 fl_X3_10 (IsArm.o ‹_›) (by decide) rfl ?_
    refine k_rwQ (g.now) ?_
    refine k_iload_n 13 14 C dX3_armFor_13 rfl 3 rfl ?_
    refine k_callVQ 14 17 C [_] [] dX3_armFor_14 rfl (ct_X0_find hD hk) mi_X0_find ml_X3_100 im_X0_find se_X0_find ci_X0 (IsDsk.o ‹_›) rfl rfl ⟨Nat.le_of_ble_eq_true rfl, Nat.le_of_ble_eq_true rfl⟩ (Nat.le_of_ble_eq_true rfl) (Nat.zero_le _) (Nat.zero_le _) (fun r14 V14 p14 => ?_)
    obtain ⟨rfl, rfl⟩ := And.intro p14.1.symm p14.2
    rcases sFind_cases (dAd a r0) S π hk.le j with ⟨zcB, zrB⟩ | ⟨v, zjB, rfl, zrB⟩
    · refine k_rwQ zrB ?_
      refine k_astoreq 17 19 C [(4, _), (3, _), (0, _), (1, _), (2, _)] dX3_armFor_17 rfl (by decide) rfl ?_
      refine k_aload_nq 19 20 C dX3_armFor_19 rfl 1 rfl ?_
      refine k_ifnullN 20 28 C dX3_armFor_20 (by decide) ?_
      refine k_ldc 28 30 C dX3_armFor_28 rfl kc_X3_35 ?_
      refine k_iret 30 C dX3_armFor_30 rfl ?_
      first
        | exact ⟨rfl, by unfold cArF; rw [if_neg (fun zz => zcA zz.1)]⟩
        | exact ⟨rfl, by unfold cArF; rw [if_neg (fun zz => zcB zz.2)]⟩
    · refine k_rwQ zrB ?_
      have zqB := hD.d (π v) (hk.p v (by omega))
      have zvB := hk.d v zjB
      have ziB : inD S (nI v) := jin hk.le zjB
      have zclB : (nI v).toNatClampNeg = v := nI_clamp (by omega)
      refine k_astore 17 19 C [(4, _), (3, _), (0, _), (1, _), (2, _)] dX3_armFor_17 rfl (by decide) rfl ?_
      refine k_aload_nq 19 20 C dX3_armFor_19 rfl 1 rfl ?_
      refine k_ifnullN 20 28 C dX3_armFor_20 (by decide) ?_
      refine k_ldc 28 30 C dX3_armFor_28 rfl kc_X3_35 ?_
      refine k_iret 30 C dX3_armFor_30 rfl ?_
      first
        | exact ⟨rfl, by unfold cArF; rw [if_neg (fun zz => zcA zz.1)]⟩
        | exact ⟨rfl, by unfold cArF; rw [if_neg (fun zz => zcB zz.2)]⟩
  · refine k_rwQ zrA ?_
    have zqA := hD.d (π u) (hk.p u (by omega))
    have zvA := hk.d u zjA
    have ziA : inD S (nI u) := jin hk.le zjA
    have zclA : (nI u).toNatClampNeg = u := nI_clamp (by omega)
    refine k_astore_n 8 9 C [(3, _), (0, _), (1, _), (2, _)] dX3_armFor_8 rfl (by decide) rfl ?_
    refine k_aload_n 9 10 C dX3_armFor_9 rfl 1 rfl ?_
    refine k_get 10 13 C dX3_armFor_10 rfl ci_X3 0 fl_X3_10 (IsArm.o ‹_›) (by decide) rfl ?_
    refine k_rwQ (g.now) ?_
    refine k_iload_n 13 14 C dX3_armFor_13 rfl 3 rfl ?_
    refine k_callVQ 14 17 C [_] [] dX3_armFor_14 rfl (ct_X0_find hD hk) mi_X0_find ml_X3_100 im_X0_find se_X0_find ci_X0 (IsDsk.o ‹_›) rfl rfl ⟨Nat.le_of_ble_eq_true rfl, Nat.le_of_ble_eq_true rfl⟩ (Nat.le_of_ble_eq_true rfl) (Nat.zero_le _) (Nat.zero_le _) (fun r14 V14 p14 => ?_)
    obtain ⟨rfl, rfl⟩ := And.intro p14.1.symm p14.2
    rcases sFind_cases (dAd a r0) S π hk.le j with ⟨zcB, zrB⟩ | ⟨v, zjB, rfl, zrB⟩
    · refine k_rwQ zrB ?_
      refine k_astoreq 17 19 C [(4, _), (3, _), (0, _), (1, _), (2, _)] dX3_armFor_17 rfl (by decide) rfl ?_
      refine k_aload_n 19 20 C dX3_armFor_19 rfl 1 rfl ?_
      refine k_ifnullO 20 23 C dX3_armFor_20 rfl ?_
      refine k_aloadq 23 25 C dX3_armFor_23 rfl 0 rfl ?_
      refine k_ifnonnullN 25 28 C dX3_armFor_25 rfl ?_
      refine k_ldc 28 30 C dX3_armFor_28 rfl kc_X3_35 ?_
      refine k_iret 30 C dX3_armFor_30 rfl ?_
      first
        | exact ⟨rfl, by unfold cArF; rw [if_neg (fun zz => zcA zz.1)]⟩
        | exact ⟨rfl, by unfold cArF; rw [if_neg (fun zz => zcB zz.2)]⟩
    · refine k_rwQ zrB ?_
      have zqB := hD.d (π v) (hk.p v (by omega))
      have zvB := hk.d v zjB
      have ziB : inD S (nI v) := jin hk.le zjB
      have zclB : (nI v).toNatClampNeg = v := nI_clamp (by omega)
      refine k_astore 17 19 C [(4, _), (3, _), (0, _), (1, _), (2, _)] dX3_armFor_17 rfl (by decide) rfl ?_
      refine k_aload_n 19 20 C dX3_armFor_19 rfl 1 rfl ?_
      refine k_ifnullO 20 23 C dX3_armFor_20 rfl ?_
      refine k_aload 23 25 C dX3_armFor_23 rfl 0 rfl ?_
      refine k_ifnonnullO 25 31 C dX3_armFor_25 (by decide) ?_
      refine k_aload_n 31 32 C dX3_armFor_31 rfl 1 rfl ?_
      refine k_getN 32 35 C dX3_armFor_32 rfl ci_X1 1 fn_X3_169 (IsDrw.o zqA) (by decide) rfl ?_
      refine k_rwL (zvA.f1) ?_
      refine k_aload 35 37 C dX3_armFor_35 rfl 0 rfl ?_
      refine k_getN 37 40 C dX3_armFor_37 rfl ci_X1 2 fn_X3_173 (IsDrw.o zqB) (by decide) rfl ?_
      refine k_rwL (zvB.f2) ?_
      refine k_lmul 40 41 C dX3_armFor_40 rfl  ?_
      refine k_lstore 41 43 C [(5, _), (4, _), (3, _), (0, _), (1, _), (2, _)] dX3_armFor_41 rfl (by decide) rfl ?_
      refine k_aload_n 43 44 C dX3_armFor_43 rfl 2 rfl ?_
      refine k_getN 44 47 C dX3_armFor_44 rfl ci_X1 2 fn_X3_173 (IsDrw.o zqA) (by decide) rfl ?_
      refine k_rwL (zvA.f2) ?_
      refine k_aload 47 49 C dX3_armFor_47 rfl 1 rfl ?_
      refine k_getN 49 52 C dX3_armFor_49 rfl ci_X1 1 fn_X3_169 (IsDrw.o zqB) (by decide) rfl ?_
      refine k_rwL (zvB.f1) ?_
      refine k_lmul 52 53 C dX3_armFor_52 rfl  ?_
      refine k_lstore 53 55 C [(7, _), (5, _), (4, _), (3, _), (0, _), (1, _), (2, _)] dX3_armFor_53 rfl (by decide) rfl ?_
      refine k_lload 55 57 C dX3_armFor_55 rfl 1 rfl ?_
      refine k_lload 57 59 C dX3_armFor_57 rfl 0 rfl ?_
      refine k_iconst 59 60 C dX3_armFor_59 rfl (v := 0) rfl ?_
      refine k_callSL 60 63 C [_, _, _] [] dX3_armFor_60 rfl ct_X3_lowest mi_X3_lowest ml_X3_176 st_X3_lowest rfl rfl ⟨Nat.le_of_ble_eq_true rfl, Nat.le_of_ble_eq_true rfl⟩ (Nat.le_of_ble_eq_true rfl) (Nat.zero_le _) (Nat.zero_le _) (fun r60 V60 p60 => ?_)
      obtain ⟨rfl, rfl⟩ := And.intro p60.1.symm p60.2
      refine k_lstore 63 65 C [(9, _), (7, _), (5, _), (4, _), (3, _), (0, _), (1, _), (2, _)] dX3_armFor_63 rfl (by decide) rfl ?_
      refine k_lload 65 67 C dX3_armFor_65 rfl 2 rfl ?_
      refine k_lload 67 69 C dX3_armFor_67 rfl 1 rfl ?_
      refine k_iconst 69 70 C dX3_armFor_69 rfl (v := 1) rfl ?_
      refine k_callSL 70 73 C [_, _, _] [] dX3_armFor_70 rfl ct_X3_lowest mi_X3_lowest ml_X3_176 st_X3_lowest rfl rfl ⟨Nat.le_of_ble_eq_true rfl, Nat.le_of_ble_eq_true rfl⟩ (Nat.le_of_ble_eq_true rfl) (Nat.zero_le _) (Nat.zero_le _) (fun r70 V70 p70 => ?_)
      obtain ⟨rfl, rfl⟩ := And.intro p70.1.symm p70.2
      refine k_lstore 73 75 C [(11, _), (9, _), (7, _), (5, _), (4, _), (3, _), (0, _), (1, _), (2, _)] dX3_armFor_73 rfl (by decide) rfl ?_
      refine k_lload 75 77 C dX3_armFor_75 rfl 1 rfl ?_
      refine k_ldc2 77 80 C dX3_armFor_77 rfl kl_X3_208 ?_
      refine k_lcmp_gt 80 81 93 84 C dX3_armFor_80 rfl dX3_armFor_81 (by decide) rfl (fun h81 => ?_) (fun h81 => ?_)
      · have zw : 20 < lowL (afN (kdr S u) (kdr S v)) (afD (kdr S u) (kdr S v)) 0 ∨ 20 < lowL (afN (kdr S u) (kdr S v)) (afD (kdr S u) (kdr S v)) 1 := Or.inl h81
        refine k_ldc 93 95 C dX3_armFor_93 rfl kc_X3_136 ?_
        refine k_goto 95 108 C dX3_armFor_95 (by decide) ?_
        refine k_iret 108 C dX3_armFor_108 rfl ?_
        refine ⟨rfl, ?_⟩
        unfold cArF
        rw [zclA, zclB, if_pos ⟨ziA, ziB⟩]
        first
          | rw [if_pos zw]
          | (rw [if_neg zw]; rfl)
      · refine k_lload 84 86 C dX3_armFor_84 rfl 0 rfl ?_
        refine k_ldc2 86 89 C dX3_armFor_86 rfl kl_X3_208 ?_
        refine k_lcmp_le 89 90 98 93 C dX3_armFor_89 rfl dX3_armFor_90 (by decide) rfl (fun h90 => ?_) (fun h90 => ?_)
        · have zw : ¬ (20 < lowL (afN (kdr S u) (kdr S v)) (afD (kdr S u) (kdr S v)) 0 ∨ 20 < lowL (afN (kdr S u) (kdr S v)) (afD (kdr S u) (kdr S v)) 1) := fun zz => zz.elim h81 (fun z1 => i64_not_lt.mpr h90 z1)
          refine k_ldc2 98 101 C dX3_armFor_98 rfl kl_X3_210 ?_
          refine k_lload 101 103 C dX3_armFor_101 rfl 1 rfl ?_
          refine k_lmul 103 104 C dX3_armFor_103 rfl  ?_
          refine k_lload 104 106 C dX3_armFor_104 rfl 0 rfl ?_
          refine k_ladd 106 107 C dX3_armFor_106 rfl  ?_
          refine k_l2i 107 108 C dX3_armFor_107 rfl  ?_
          refine k_iret 108 C dX3_armFor_108 rfl ?_
          refine ⟨rfl, ?_⟩
          unfold cArF
          rw [zclA, zclB, if_pos ⟨ziA, ziB⟩]
          first
            | rw [if_pos zw]
            | (rw [if_neg zw]; rfl)
        · have zw : 20 < lowL (afN (kdr S u) (kdr S v)) (afD (kdr S u) (kdr S v)) 0 ∨ 20 < lowL (afN (kdr S u) (kdr S v)) (afD (kdr S u) (kdr S v)) 1 := Or.inr (i64_not_le.mp h90)
          refine k_ldc 93 95 C dX3_armFor_93 rfl kc_X3_136 ?_
          refine k_goto 95 108 C dX3_armFor_95 (by decide) ?_
          refine k_iret 108 C dX3_armFor_108 rfl ?_
          refine ⟨rfl, ?_⟩
          unfold cArF
          rw [zclA, zclB, if_pos ⟨ziA, ziB⟩]
          first
            | rw [if_pos zw]
            | (rw [if_neg zw]; rfl)
set_option maxHeartbeats 4000000 in
set_option maxRecDepth 100000 in
theorem ct_X3_alike {E : gE} {T : gT} {l : Launch} {V : gV} {i j : Int32} {a : Nat} {S : Dk} {h : Nat} {H : Nat → Dk} {r0 : Nat} {ρ : Nat → Nat} (hA : IsAll T a) (g : AVp V a S h H r0 ρ) : CtI E T l yX3_alike (gw yX3_alike cX3_alike 7 (some .int)) { frames := 2, cells := 0, slots := 0, locals := 42 } [.ref a, .int i, .int j] V (fun (r : Int32) (V' : gV) => V' = V ∧ r = cAlk S i j) := by
  refine ctI_of (L := [(0, .ref a), (1, .int i), (2, .int j)]) (by decide) rfl (Nat.le_of_ble_eq_true rfl) rfl (fun p e s m args below meth c C => ?_)
  obtain ⟨π, hk⟩ := g.dk
  have hD := hA.2 _ g.r5
  have ha := hA.a
  have zn6 := hk.le
  have loop37 : ∀ (f : Nat) (q u v : Nat) (hU : i = nI u) (hV : j = nI v), min (rn (kdr S u)) (rn (kdr S v)) - q = f → (q ≤ min (rn (kdr S u)) (rn (kdr S v))) → (u < kn S) → (v < kn S) → KW E T V p l e { frames := 2, cells := 0, slots := 0, locals := 42 } s m args below meth c 7 0 0 (MQ below (va_Qi (fun (r : Int32) (V' : gV) => V' = V ∧ r = cAlk S i j) (RepS E T) (gA E)) args s 0 0 (gA E)) 37 [(6, .int (nI q)), (5, .int (nI (alkF (kdr S u) (kdr S v) q))), (4, .ref (dAd a r0 + 3 + 4 * π v)), (3, .ref (dAd a r0 + 3 + 4 * π u)), (0, .ref a), (1, .int (nI u)), (2, .int (nI v))] [] := by
    intro f
    induction f using Nat.strongRecOn with
    | _ f ih =>
    intro q u v hU hV hf hq zjA zjB
    have zqA := hD.d (π u) (hk.p u (by omega))
    have zvA := hk.d u zjA
    have zqB := hD.d (π v) (hk.p v (by omega))
    have zvB := hk.d v zjB
    have z20A := zvA.le
    have z20B := zvB.le
    refine k_iload 37 39 C dX3_alike_37 rfl 0 rfl ?_
    refine k_aload_n 39 40 C dX3_alike_39 rfl 3 rfl ?_
    refine k_getN 40 43 C dX3_alike_40 rfl ci_X1 7 fn_X3_121 (IsDrw.o zqA) (by decide) rfl ?_
    refine k_rwI (zvA.f7) ?_
    refine k_icmp_ge 43 121 46 C dX3_alike_43 (by decide) rfl (fun h43 => ?_) (fun h43 => ?_)
    · rw [n20 z20A (by omega)] at h43
      refine k_iload 121 123 C dX3_alike_121 rfl 1 rfl ?_
      refine k_iret 123 C dX3_alike_123 rfl ?_
      obtain rfl : q = min (rn (kdr S u)) (rn (kdr S v)) := by omega
      refine ⟨rfl, ?_⟩
      unfold cAlk
      rw [hU, hV, nI_clamp (show u < 2 ^ 31 by omega), nI_clamp (show v < 2 ^ 31 by omega), if_pos ⟨jin hk.le zjA, jin hk.le zjB⟩]
    · rw [n20 z20A (by omega)] at h43
      refine k_iload 46 48 C dX3_alike_46 rfl 0 rfl ?_
      refine k_aload 48 50 C dX3_alike_48 rfl 2 rfl ?_
      refine k_getN 50 53 C dX3_alike_50 rfl ci_X1 7 fn_X3_121 (IsDrw.o zqB) (by decide) rfl ?_
      refine k_rwI (zvB.f7) ?_
      refine k_icmp_ge 53 121 56 C dX3_alike_53 (by decide) rfl (fun h53 => ?_) (fun h53 => ?_)
      · rw [n20 z20B (by omega)] at h53
        refine k_iload 121 123 C dX3_alike_121 rfl 1 rfl ?_
        refine k_iret 123 C dX3_alike_123 rfl ?_
        obtain rfl : q = min (rn (kdr S u)) (rn (kdr S v)) := by omega
        refine ⟨rfl, ?_⟩
        unfold cAlk
        rw [hU, hV, nI_clamp (show u < 2 ^ 31 by omega), nI_clamp (show v < 2 ^ 31 by omega), if_pos ⟨jin hk.le zjA, jin hk.le zjB⟩]
      · rw [n20 z20B (by omega)] at h53
        refine k_aload_n 56 57 C dX3_alike_56 rfl 3 rfl ?_
        refine k_iload 57 59 C dX3_alike_57 rfl 0 rfl ?_
        refine k_callVL 59 62 C [_] [] dX3_alike_59 rfl (ct_X1_x zqA zvA) mi_X1_x ml_X3_185 im_X1_x se_X1_x ci_X1 (IsDrw.o zqA) rfl rfl ⟨Nat.le_of_ble_eq_true rfl, Nat.le_of_ble_eq_true rfl⟩ (Nat.le_of_ble_eq_true rfl) (Nat.zero_le _) (Nat.zero_le _) (fun r59 V59 p59 => ?_)
        obtain ⟨rfl, rfl⟩ := And.intro p59.1.symm p59.2
        refine k_aload 62 64 C dX3_alike_62 rfl 2 rfl ?_
        refine k_getN 64 67 C dX3_alike_64 rfl ci_X1 2 fn_X3_173 (IsDrw.o zqB) (by decide) rfl ?_
        refine k_rwL (zvB.f2) ?_
        refine k_lmul 67 68 C dX3_alike_67 rfl  ?_
        refine k_aload 68 70 C dX3_alike_68 rfl 2 rfl ?_
        refine k_iload 70 72 C dX3_alike_70 rfl 0 rfl ?_
        refine k_callVL 72 75 C [_] [_] dX3_alike_72 rfl (ct_X1_x zqB zvB) mi_X1_x ml_X3_185 im_X1_x se_X1_x ci_X1 (IsDrw.o zqB) rfl rfl ⟨Nat.le_of_ble_eq_true rfl, Nat.le_of_ble_eq_true rfl⟩ (Nat.le_of_ble_eq_true rfl) (Nat.zero_le _) (Nat.zero_le _) (fun r72 V72 p72 => ?_)
        obtain ⟨rfl, rfl⟩ := And.intro p72.1.symm p72.2
        refine k_aload_n 75 76 C dX3_alike_75 rfl 3 rfl ?_
        refine k_getN 76 79 C dX3_alike_76 rfl ci_X1 2 fn_X3_173 (IsDrw.o zqA) (by decide) rfl ?_
        refine k_rwL (zvA.f2) ?_
        refine k_lmul 79 80 C dX3_alike_79 rfl  ?_
        refine k_lcmp_ne 80 81 115 84 C dX3_alike_80 rfl dX3_alike_81 (by decide) rfl (fun h81 => ?_) (fun h81 => ?_)
        · refine k_iinc 115 118 C [(6, _), (5, _), (4, _), (3, _), (0, _), (1, _), (2, _)] (nI (q + 1)) dX3_alike_115 rfl 0 rfl (nI_1 q) (by decide) rfl ?_
          refine k_goto 118 37 C dX3_alike_118 (by decide) ?_
          have zh := ih (min (rn (kdr S u)) (rn (kdr S v)) - (q + 1)) (by omega) (q + 1) u v hU hV rfl (by omega) zjA zjB
          first
            | (rw [show alkF (kdr S u) (kdr S v) (q + 1) = alkF (kdr S u) (kdr S v) q + 1 from by simp only [alkF]; rw [if_pos ⟨h81, h109⟩]] at zh; exact zh)
            | (rw [show alkF (kdr S u) (kdr S v) (q + 1) = alkF (kdr S u) (kdr S v) q from by simp only [alkF]; rw [if_neg (fun zw => h109 zw.2)]; rfl] at zh; exact zh)
            | (rw [show alkF (kdr S u) (kdr S v) (q + 1) = alkF (kdr S u) (kdr S v) q from by simp only [alkF]; rw [if_neg (fun zw => h81 zw.1)]; rfl] at zh; exact zh)
        · refine k_aload_n 84 85 C dX3_alike_84 rfl 3 rfl ?_
          refine k_iload 85 87 C dX3_alike_85 rfl 0 rfl ?_
          refine k_callVL 87 90 C [_] [] dX3_alike_87 rfl (ct_X1_y zqA zvA) mi_X1_y ml_X3_189 im_X1_y se_X1_y ci_X1 (IsDrw.o zqA) rfl rfl ⟨Nat.le_of_ble_eq_true rfl, Nat.le_of_ble_eq_true rfl⟩ (Nat.le_of_ble_eq_true rfl) (Nat.zero_le _) (Nat.zero_le _) (fun r87 V87 p87 => ?_)
          obtain ⟨rfl, rfl⟩ := And.intro p87.1.symm p87.2
          refine k_aload 90 92 C dX3_alike_90 rfl 2 rfl ?_
          refine k_getN 92 95 C dX3_alike_92 rfl ci_X1 2 fn_X3_173 (IsDrw.o zqB) (by decide) rfl ?_
          refine k_rwL (zvB.f2) ?_
          refine k_lmul 95 96 C dX3_alike_95 rfl  ?_
          refine k_aload 96 98 C dX3_alike_96 rfl 2 rfl ?_
          refine k_iload 98 100 C dX3_alike_98 rfl 0 rfl ?_
          refine k_callVL 100 103 C [_] [_] dX3_alike_100 rfl (ct_X1_y zqB zvB) mi_X1_y ml_X3_189 im_X1_y se_X1_y ci_X1 (IsDrw.o zqB) rfl rfl ⟨Nat.le_of_ble_eq_true rfl, Nat.le_of_ble_eq_true rfl⟩ (Nat.le_of_ble_eq_true rfl) (Nat.zero_le _) (Nat.zero_le _) (fun r100 V100 p100 => ?_)
          obtain ⟨rfl, rfl⟩ := And.intro p100.1.symm p100.2
          refine k_aload_n 103 104 C dX3_alike_103 rfl 3 rfl ?_
          refine k_getN 104 107 C dX3_alike_104 rfl ci_X1 2 fn_X3_173 (IsDrw.o zqA) (by decide) rfl ?_
          refine k_rwL (zvA.f2) ?_
          refine k_lmul 107 108 C dX3_alike_107 rfl  ?_
          refine k_lcmp_ne 108 109 115 112 C dX3_alike_108 rfl dX3_alike_109 (by decide) rfl (fun h109 => ?_) (fun h109 => ?_)
          · refine k_iinc 115 118 C [(6, _), (5, _), (4, _), (3, _), (0, _), (1, _), (2, _)] (nI (q + 1)) dX3_alike_115 rfl 0 rfl (nI_1 q) (by decide) rfl ?_
            refine k_goto 118 37 C dX3_alike_118 (by decide) ?_
            have zh := ih (min (rn (kdr S u)) (rn (kdr S v)) - (q + 1)) (by omega) (q + 1) u v hU hV rfl (by omega) zjA zjB
            first
              | (rw [show alkF (kdr S u) (kdr S v) (q + 1) = alkF (kdr S u) (kdr S v) q + 1 from by simp only [alkF]; rw [if_pos ⟨h81, h109⟩]] at zh; exact zh)
              | (rw [show alkF (kdr S u) (kdr S v) (q + 1) = alkF (kdr S u) (kdr S v) q from by simp only [alkF]; rw [if_neg (fun zw => h109 zw.2)]; rfl] at zh; exact zh)
              | (rw [show alkF (kdr S u) (kdr S v) (q + 1) = alkF (kdr S u) (kdr S v) q from by simp only [alkF]; rw [if_neg (fun zw => h81 zw.1)]; rfl] at zh; exact zh)
          · refine k_iinc 112 115 C [(5, _), (6, _), (4, _), (3, _), (0, _), (1, _), (2, _)] (nI (alkF (kdr S u) (kdr S v) q + 1)) dX3_alike_112 rfl 1 rfl (nI_1 _) (by decide) rfl ?_
            refine k_iinc 115 118 C [(6, _), (5, _), (4, _), (3, _), (0, _), (1, _), (2, _)] (nI (q + 1)) dX3_alike_115 rfl 1 rfl (nI_1 q) (by decide) rfl ?_
            refine k_goto 118 37 C dX3_alike_118 (by decide) ?_
            have zh := ih (min (rn (kdr S u)) (rn (kdr S v)) - (q + 1)) (by omega) (q + 1) u v hU hV rfl (by omega) zjA zjB
            first
              | (rw [show alkF (kdr S u) (kdr S v) (q + 1) = alkF (kdr S u) (kdr S v) q + 1 from by simp only [alkF]; rw [if_pos ⟨h81, h109⟩]] at zh; exact zh)
              | (rw [show alkF (kdr S u) (kdr S v) (q + 1) = alkF (kdr S u) (kdr S v) q from by simp only [alkF]; rw [if_neg (fun zw => h109 zw.2)]; rfl] at zh; exact zh)
              | (rw [show alkF (kdr S u) (kdr S v) (q + 1) = alkF (kdr S u) (kdr S v) q from by simp only [alkF]; rw [if_neg (fun zw => h81 zw.1)]; rfl] at zh; exact zh)
  refine k_aload_n 0 1 C dX3_alike_0 rfl 0 rfl ?_
  refine k_get 1 4 C dX3_alike_1 rfl ci_X3 0 fl_X3_10 (IsArm.o ‹_›) (by decide) rfl ?_
  refine k_rwQ (g.now) ?_
  refine k_iload_n 4 5 C dX3_alike_4 rfl 1 rfl ?_
  refine k_callVQ 5 8 C [_] [] dX3_alike_5 rfl (ct_X0_find hD hk) mi_X0_find ml_X3_100 im_X0_find se_X0_find ci_X0 (IsDsk.o ‹_›) rfl rfl ⟨Nat.le_of_ble_eq_true rfl, Nat.le_of_ble_eq_true rfl⟩ (Nat.le_of_ble_eq_true rfl) (Nat.zero_le _) (Nat.zero_le _) (fun r5 V5 p5 => ?_)
  obtain ⟨rfl, rfl⟩ := And.intro p5.1.symm p5.2
  rcases sFind_cases (dAd a r0) S π hk.le i with ⟨zcA, zrA⟩ | ⟨u, zjA, rfl, zrA⟩
  · refine k_rwQ zrA ?_
    refine k_astore_nq 8 9 C [(3, _), (0, _), (1, _), (2, _)] dX3_alike_8 rfl (by decide) rfl ?_
    refine k_aload_n 9 10 C dX3_alike_9 rfl 1 rfl ?_
    refine k_get 10 13 C dX3_alike_10 rfl ci_X3 0 fl_X3_10 (IsArm.o ‹_›) (by decide) rfl ?_
    refine k_rwQ (g.now) ?_
    refine k_iload_n 13 14 C dX3_alike_13 rfl 3 rfl ?_
    refine k_callVQ 14 17 C [_] [] dX3_alike_14 rfl (ct_X0_find hD hk) mi_X0_find ml_X3_100 im_X0_find se_X0_find ci_X0 (IsDsk.o ‹_›) rfl rfl ⟨Nat.le_of_ble_eq_true rfl, Nat.le_of_ble_eq_true rfl⟩ (Nat.le_of_ble_eq_true rfl) (Nat.zero_le _) (Nat.zero_le _) (fun r14 V14 p14 => ?_)
    obtain ⟨rfl, rfl⟩ := And.intro p14.1.symm p14.2
    rcases sFind_cases (dAd a r0) S π hk.le j with ⟨zcB, zrB⟩ | ⟨v, zjB, rfl, zrB⟩
    · refine k_rwQ zrB ?_
      refine k_astoreq 17 19 C [(4, _), (3, _), (0, _), (1, _), (2, _)] dX3_alike_17 rfl (by decide) rfl ?_
      refine k_aload_nq 19 20 C dX3_alike_19 rfl 1 rfl ?_
      refine k_ifnullN 20 28 C dX3_alike_20 (by decide) ?_
      refine k_ldc 28 30 C dX3_alike_28 rfl kc_X3_35 ?_
      refine k_iret 30 C dX3_alike_30 rfl ?_
      first
        | exact ⟨rfl, by unfold cAlk; rw [if_neg (fun zz => zcA zz.1)]⟩
        | exact ⟨rfl, by unfold cAlk; rw [if_neg (fun zz => zcB zz.2)]⟩
    · refine k_rwQ zrB ?_
      have zqB := hD.d (π v) (hk.p v (by omega))
      have zvB := hk.d v zjB
      have ziB : inD S (nI v) := jin hk.le zjB
      have zclB : (nI v).toNatClampNeg = v := nI_clamp (by omega)
      refine k_astore 17 19 C [(4, _), (3, _), (0, _), (1, _), (2, _)] dX3_alike_17 rfl (by decide) rfl ?_
      refine k_aload_nq 19 20 C dX3_alike_19 rfl 1 rfl ?_
      refine k_ifnullN 20 28 C dX3_alike_20 (by decide) ?_
      refine k_ldc 28 30 C dX3_alike_28 rfl kc_X3_35 ?_
      refine k_iret 30 C dX3_alike_30 rfl ?_
      first
        | exact ⟨rfl, by unfold cAlk; rw [if_neg (fun zz => zcA zz.1)]⟩
        | exact ⟨rfl, by unfold cAlk; rw [if_neg (fun zz => zcB zz.2)]⟩
  · refine k_rwQ zrA ?_
    have zqA := hD.d (π u) (hk.p u (by omega))
    have zvA := hk.d u zjA
    have ziA : inD S (nI u) := jin hk.le zjA
    have zclA : (nI u).toNatClampNeg = u := nI_clamp (by omega)
    refine k_astore_n 8 9 C [(3, _), (0, _), (1, _), (2, _)] dX3_alike_8 rfl (by decide) rfl ?_
    refine k_aload_n 9 10 C dX3_alike_9 rfl 1 rfl ?_
    refine k_get 10 13 C dX3_alike_10 rfl ci_X3 0 fl_X3_10 (IsArm.o ‹_›) (by decide) rfl ?_
    refine k_rwQ (g.now) ?_
    refine k_iload_n 13 14 C dX3_alike_13 rfl 3 rfl ?_
    refine k_callVQ 14 17 C [_] [] dX3_alike_14 rfl (ct_X0_find hD hk) mi_X0_find ml_X3_100 im_X0_find se_X0_find ci_X0 (IsDsk.o ‹_›) rfl rfl ⟨Nat.le_of_ble_eq_true rfl, Nat.le_of_ble_eq_true rfl⟩ (Nat.le_of_ble_eq_true rfl) (Nat.zero_le _) (Nat.zero_le _) (fun r14 V14 p14 => ?_)
    obtain ⟨rfl, rfl⟩ := And.intro p14.1.symm p14.2
    rcases sFind_cases (dAd a r0) S π hk.le j with ⟨zcB, zrB⟩ | ⟨v, zjB, rfl, zrB⟩
    · refine k_rwQ zrB ?_
      refine k_astoreq 17 19 C [(4, _), (3, _), (0, _), (1, _), (2, _)] dX3_alike_17 rfl (by decide) rfl ?_
      refine k_aload_n 19 20 C dX3_alike_19 rfl 1 rfl ?_
      refine k_ifnullO 20 23 C dX3_alike_20 rfl ?_
      refine k_aloadq 23 25 C dX3_alike_23 rfl 0 rfl ?_
      refine k_ifnonnullN 25 28 C dX3_alike_25 rfl ?_
      refine k_ldc 28 30 C dX3_alike_28 rfl kc_X3_35 ?_
      refine k_iret 30 C dX3_alike_30 rfl ?_
      first
        | exact ⟨rfl, by unfold cAlk; rw [if_neg (fun zz => zcA zz.1)]⟩
        | exact ⟨rfl, by unfold cAlk; rw [if_neg (fun zz => zcB zz.2)]⟩
    · refine k_rwQ zrB ?_
      have zqB := hD.d (π v) (hk.p v (by omega))
      have zvB := hk.d v zjB
      have ziB : inD S (nI v) := jin hk.le zjB
      have zclB : (nI v).toNatClampNeg = v := nI_clamp (by omega)
      refine k_astore 17 19 C [(4, _), (3, _), (0, _), (1, _), (2, _)] dX3_alike_17 rfl (by decide) rfl ?_
      refine k_aload_n 19 20 C dX3_alike_19 rfl 1 rfl ?_
      refine k_ifnullO 20 23 C dX3_alike_20 rfl ?_
      refine k_aload 23 25 C dX3_alike_23 rfl 0 rfl ?_
      refine k_ifnonnullO 25 31 C dX3_alike_25 (by decide) ?_
      refine k_iconst 31 32 C dX3_alike_31 rfl (v := 0) rfl ?_
      refine k_istore 32 34 C [(5, _), (4, _), (3, _), (0, _), (1, _), (2, _)] dX3_alike_32 rfl (by decide) rfl ?_
      refine k_iconst 34 35 C dX3_alike_34 rfl (v := 0) rfl ?_
      refine k_istore 35 37 C [(6, _), (5, _), (4, _), (3, _), (0, _), (1, _), (2, _)] dX3_alike_35 rfl (by decide) rfl ?_
      exact loop37 _ 0 u v rfl rfl rfl (Nat.zero_le _) zjA zjB
def cAO (S : Dk) (d f : Dr) (x w : Int32) : Int64 := if w = 0 then lowL (rsc d * (rsx d).toInt64 * vX f x + rhx d) (rpt d) 0 else if w = 1 then lowL (rsc d * (rsx d).toInt64 * vX f x + rhx d) (rpt d) 1 else if w = 2 then lowL (rsc d * (rsy d).toInt64 * vY f x + rhy d) (rpt d) 0 else if w = 3 then lowL (rsc d * (rsy d).toInt64 * vY f x + rhy d) (rpt d) 1 else -2000000001
def cAtO (S : Dk) (i x w : Int32) : Int64 := if (inD S i ∧ inD S (orgF S 6 i)) ∧ inP (kdr S i.toNatClampNeg) x then cAO S (kdr S i.toNatClampNeg) (kdr S (orgF S 6 i).toNatClampNeg) x w else -2000000001
set_option maxHeartbeats 4000000 in
set_option maxRecDepth 100000 in
theorem ct_X3_atOnce {E : gE} {T : gT} {l : Launch} {V : gV} {i x w : Int32} {a : Nat} {S : Dk} {h : Nat} {H : Nat → Dk} {r0 : Nat} {ρ : Nat → Nat} (hA : IsAll T a) (g : AVp V a S h H r0 ρ) : CtL E T l yX3_atOnce (gw yX3_atOnce cX3_atOnce 6 (some .long)) { frames := 2, cells := 0, slots := 0, locals := 58 } [.ref a, .int i, .int x, .int w] V (fun (r : Int64) (V' : gV) => V' = V ∧ r = cAtO S i x w) := by
  refine ctL_of (L := [(0, .ref a), (1, .int i), (2, .int x), (3, .int w)]) (by decide) rfl (Nat.le_of_ble_eq_true rfl) rfl (fun p e s m args below meth c C => ?_)
  obtain ⟨π, hk⟩ := g.dk
  have hD := hA.2 _ g.r5
  have ha := hA.a
  have zn6 := hk.le
  obtain ⟨go, hgo⟩ : ∃ go, orgF S 6 i = go := ⟨_, rfl⟩
  refine k_aload_n 0 1 C dX3_atOnce_0 rfl 0 rfl ?_
  refine k_get 1 4 C dX3_atOnce_1 rfl ci_X3 0 fl_X3_10 (IsArm.o ‹_›) (by decide) rfl ?_
  refine k_rwQ (g.now) ?_
  refine k_iload_n 4 5 C dX3_atOnce_4 rfl 1 rfl ?_
  refine k_callVQ 5 8 C [_] [] dX3_atOnce_5 rfl (ct_X0_find hD hk) mi_X0_find ml_X3_100 im_X0_find se_X0_find ci_X0 (IsDsk.o ‹_›) rfl rfl ⟨Nat.le_of_ble_eq_true rfl, Nat.le_of_ble_eq_true rfl⟩ (Nat.le_of_ble_eq_true rfl) (Nat.zero_le _) (Nat.zero_le _) (fun r5 V5 p5 => ?_)
  obtain ⟨rfl, rfl⟩ := And.intro p5.1.symm p5.2
  rcases sFind_cases (dAd a r0) S π hk.le i with ⟨zcA, zrA⟩ | ⟨u, zjA, rfl, zrA⟩
  · refine k_rwQ zrA ?_
    refine k_astoreq 8 10 C [(4, _), (0, _), (1, _), (2, _), (3, _)] dX3_atOnce_8 rfl (by decide) rfl ?_
    refine k_aload_n 10 11 C dX3_atOnce_10 rfl 1 rfl ?_
    refine k_get 11 14 C dX3_atOnce_11 rfl ci_X3 0 fl_X3_10 (IsArm.o ‹_›) (by decide) rfl ?_
    refine k_rwQ (g.now) ?_
    refine k_aload_n 14 15 C dX3_atOnce_14 rfl 1 rfl ?_
    refine k_get 15 18 C dX3_atOnce_15 rfl ci_X3 0 fl_X3_10 (IsArm.o ‹_›) (by decide) rfl ?_
    refine k_rwQ (g.now) ?_
    refine k_iload_n 18 19 C dX3_atOnce_18 rfl 2 rfl ?_
    refine k_callVI 19 22 C [_] [_] dX3_atOnce_19 rfl (ct_X0_originalOf hD hk) mi_X0_originalOf ml_X3_137 im_X0_originalOf se_X0_originalOf ci_X0 (IsDsk.o ‹_›) rfl rfl ⟨Nat.le_of_ble_eq_true rfl, Nat.le_of_ble_eq_true rfl⟩ (Nat.le_of_ble_eq_true rfl) (Nat.zero_le _) (Nat.zero_le _) (fun r19 V19 p19 => ?_)
    obtain ⟨rfl, rfl⟩ := And.intro p19.1.symm p19.2
    refine k_rwI hgo ?_
    refine k_callVQ 22 25 C [_] [] dX3_atOnce_22 rfl (ct_X0_find hD hk) mi_X0_find ml_X3_100 im_X0_find se_X0_find ci_X0 (IsDsk.o ‹_›) rfl rfl ⟨Nat.le_of_ble_eq_true rfl, Nat.le_of_ble_eq_true rfl⟩ (Nat.le_of_ble_eq_true rfl) (Nat.zero_le _) (Nat.zero_le _) (fun r22 V22 p22 => ?_)
    obtain ⟨rfl, rfl⟩ := And.intro p22.1.symm p22.2
    rcases sFind_cases (dAd a r0) S π hk.le go with ⟨zcB, zrB⟩ | ⟨v, zjB, rfl, zrB⟩
    · refine k_rwQ zrB ?_
      refine k_astoreq 25 27 C [(5, _), (4, _), (0, _), (1, _), (2, _), (3, _)] dX3_atOnce_25 rfl (by decide) rfl ?_
      refine k_aloadq 27 29 C dX3_atOnce_27 rfl 1 rfl ?_
      refine k_ifnullN 29 46 C dX3_atOnce_29 (by decide) ?_
      refine k_ldc2 46 49 C dX3_atOnce_46 rfl kl_X3_183 ?_
      refine k_lret 49 C dX3_atOnce_49 rfl ?_
      first
        | exact ⟨rfl, by unfold cAtO; rw [if_neg (fun zz => zcA zz.1.1)]⟩
        | exact ⟨rfl, by unfold cAtO; rw [hgo, if_neg (fun zz => zcB zz.1.2)]⟩
        | exact ⟨rfl, by unfold cAtO; rw [zclA, if_neg (fun zz => h43 zz.2)]⟩
    · refine k_rwQ zrB ?_
      have zqB := hD.d (π v) (hk.p v (by omega))
      have zvB := hk.d v zjB
      have ziB : inD S (nI v) := jin hk.le zjB
      have zclB : (nI v).toNatClampNeg = v := nI_clamp (by omega)
      refine k_astore 25 27 C [(5, _), (4, _), (0, _), (1, _), (2, _), (3, _)] dX3_atOnce_25 rfl (by decide) rfl ?_
      refine k_aloadq 27 29 C dX3_atOnce_27 rfl 1 rfl ?_
      refine k_ifnullN 29 46 C dX3_atOnce_29 (by decide) ?_
      refine k_ldc2 46 49 C dX3_atOnce_46 rfl kl_X3_183 ?_
      refine k_lret 49 C dX3_atOnce_49 rfl ?_
      first
        | exact ⟨rfl, by unfold cAtO; rw [if_neg (fun zz => zcA zz.1.1)]⟩
        | exact ⟨rfl, by unfold cAtO; rw [hgo, if_neg (fun zz => zcB zz.1.2)]⟩
        | exact ⟨rfl, by unfold cAtO; rw [zclA, if_neg (fun zz => h43 zz.2)]⟩
  · refine k_rwQ zrA ?_
    have zqA := hD.d (π u) (hk.p u (by omega))
    have zvA := hk.d u zjA
    have ziA : inD S (nI u) := jin hk.le zjA
    have zclA : (nI u).toNatClampNeg = u := nI_clamp (by omega)
    refine k_astore 8 10 C [(4, _), (0, _), (1, _), (2, _), (3, _)] dX3_atOnce_8 rfl (by decide) rfl ?_
    refine k_aload_n 10 11 C dX3_atOnce_10 rfl 1 rfl ?_
    refine k_get 11 14 C dX3_atOnce_11 rfl ci_X3 0 fl_X3_10 (IsArm.o ‹_›) (by decide) rfl ?_
    refine k_rwQ (g.now) ?_
    refine k_aload_n 14 15 C dX3_atOnce_14 rfl 1 rfl ?_
    refine k_get 15 18 C dX3_atOnce_15 rfl ci_X3 0 fl_X3_10 (IsArm.o ‹_›) (by decide) rfl ?_
    refine k_rwQ (g.now) ?_
    refine k_iload_n 18 19 C dX3_atOnce_18 rfl 2 rfl ?_
    refine k_callVI 19 22 C [_] [_] dX3_atOnce_19 rfl (ct_X0_originalOf hD hk) mi_X0_originalOf ml_X3_137 im_X0_originalOf se_X0_originalOf ci_X0 (IsDsk.o ‹_›) rfl rfl ⟨Nat.le_of_ble_eq_true rfl, Nat.le_of_ble_eq_true rfl⟩ (Nat.le_of_ble_eq_true rfl) (Nat.zero_le _) (Nat.zero_le _) (fun r19 V19 p19 => ?_)
    obtain ⟨rfl, rfl⟩ := And.intro p19.1.symm p19.2
    refine k_rwI hgo ?_
    refine k_callVQ 22 25 C [_] [] dX3_atOnce_22 rfl (ct_X0_find hD hk) mi_X0_find ml_X3_100 im_X0_find se_X0_find ci_X0 (IsDsk.o ‹_›) rfl rfl ⟨Nat.le_of_ble_eq_true rfl, Nat.le_of_ble_eq_true rfl⟩ (Nat.le_of_ble_eq_true rfl) (Nat.zero_le _) (Nat.zero_le _) (fun r22 V22 p22 => ?_)
    obtain ⟨rfl, rfl⟩ := And.intro p22.1.symm p22.2
    rcases sFind_cases (dAd a r0) S π hk.le go with ⟨zcB, zrB⟩ | ⟨v, zjB, rfl, zrB⟩
    · refine k_rwQ zrB ?_
      refine k_astoreq 25 27 C [(5, _), (4, _), (0, _), (1, _), (2, _), (3, _)] dX3_atOnce_25 rfl (by decide) rfl ?_
      refine k_aload 27 29 C dX3_atOnce_27 rfl 1 rfl ?_
      refine k_ifnullO 29 32 C dX3_atOnce_29 rfl ?_
      refine k_aloadq 32 34 C dX3_atOnce_32 rfl 0 rfl ?_
      refine k_ifnullN 34 46 C dX3_atOnce_34 (by decide) ?_
      refine k_ldc2 46 49 C dX3_atOnce_46 rfl kl_X3_183 ?_
      refine k_lret 49 C dX3_atOnce_49 rfl ?_
      first
        | exact ⟨rfl, by unfold cAtO; rw [if_neg (fun zz => zcA zz.1.1)]⟩
        | exact ⟨rfl, by unfold cAtO; rw [hgo, if_neg (fun zz => zcB zz.1.2)]⟩
        | exact ⟨rfl, by unfold cAtO; rw [zclA, if_neg (fun zz => h43 zz.2)]⟩
    · refine k_rwQ zrB ?_
      have zqB := hD.d (π v) (hk.p v (by omega))
      have zvB := hk.d v zjB
      have ziB : inD S (nI v) := jin hk.le zjB
      have zclB : (nI v).toNatClampNeg = v := nI_clamp (by omega)
      refine k_astore 25 27 C [(5, _), (4, _), (0, _), (1, _), (2, _), (3, _)] dX3_atOnce_25 rfl (by decide) rfl ?_
      refine k_aload 27 29 C dX3_atOnce_27 rfl 1 rfl ?_
      refine k_ifnullO 29 32 C dX3_atOnce_29 rfl ?_
      refine k_aload 32 34 C dX3_atOnce_32 rfl 0 rfl ?_
      refine k_ifnullO 34 37 C dX3_atOnce_34 rfl ?_
      refine k_aload 37 39 C dX3_atOnce_37 rfl 1 rfl ?_
      refine k_iload_n 39 40 C dX3_atOnce_39 rfl 4 rfl ?_
      refine k_callVI 40 43 C [_] [] dX3_atOnce_40 rfl (ct_X1_has zqA zvA) mi_X1_has ml_X3_180 im_X1_has se_X1_has ci_X1 (IsDrw.o zqA) rfl rfl ⟨Nat.le_of_ble_eq_true rfl, Nat.le_of_ble_eq_true rfl⟩ (Nat.le_of_ble_eq_true rfl) (Nat.zero_le _) (Nat.zero_le _) (fun r40 V40 p40 => ?_)
      obtain ⟨rfl, rfl⟩ := And.intro p40.1.symm p40.2
      refine k_ifb_ne 43 50 46 C dX3_atOnce_43 (by decide) rfl (fun h43 => ?_) (fun h43 => ?_)
      · refine k_iload_n 50 51 C dX3_atOnce_50 rfl 5 rfl ?_
        refine k_switch4 51 C (fun h51 => ?_) (fun h51 => ?_) (fun h51 => ?_) (fun h51 => ?_) (fun h51 => ?_)
        · refine k_tabOut 51 164 C dX3_atOnce_51 h51 (by decide) ?_
          refine k_ldc2 164 167 C dX3_atOnce_164 rfl kl_X3_183 ?_
          refine k_lret 167 C dX3_atOnce_167 rfl ?_
          exact ⟨rfl, by unfold cAtO cAO; rw [hgo, zclA, zclB, if_pos ⟨⟨ziA, ziB⟩, h43⟩]; simp [sw_no (z := 0) h51, sw_no (z := 1) h51, sw_no (z := 2) h51, sw_no (z := 3) h51]⟩
        · refine k_tabAt 51 80 C dX3_atOnce_51 (z := 0) h51 rfl rfl rfl (by decide) ?_
          refine k_aload 80 82 C dX3_atOnce_80 rfl 1 rfl ?_
          refine k_aload 82 84 C dX3_atOnce_82 rfl 0 rfl ?_
          refine k_iload_n 84 85 C dX3_atOnce_84 rfl 4 rfl ?_
          refine k_callVL 85 88 C [_] [_] dX3_atOnce_85 rfl (ct_X1_x zqB zvB) mi_X1_x ml_X3_185 im_X1_x se_X1_x ci_X1 (IsDrw.o zqB) rfl rfl ⟨Nat.le_of_ble_eq_true rfl, Nat.le_of_ble_eq_true rfl⟩ (Nat.le_of_ble_eq_true rfl) (Nat.zero_le _) (Nat.zero_le _) (fun r85 V85 p85 => ?_)
          obtain ⟨rfl, rfl⟩ := And.intro p85.1.symm p85.2
          refine k_callVL 88 91 C [_] [] dX3_atOnce_88 rfl (ct_X1_xAtOnce zqA zvA) mi_X1_xAtOnce ml_X3_201 im_X1_xAtOnce se_X1_xAtOnce ci_X1 (IsDrw.o zqA) rfl rfl ⟨Nat.le_of_ble_eq_true rfl, Nat.le_of_ble_eq_true rfl⟩ (Nat.le_of_ble_eq_true rfl) (Nat.zero_le _) (Nat.zero_le _) (fun r88 V88 p88 => ?_)
          obtain ⟨rfl, rfl⟩ := And.intro p88.1.symm p88.2
          refine k_aload 91 93 C dX3_atOnce_91 rfl 1 rfl ?_
          refine k_getN 93 96 C dX3_atOnce_93 rfl ci_X1 2 fn_X3_173 (IsDrw.o zqA) (by decide) rfl ?_
          refine k_rwL (zvA.f2) ?_
          refine k_iconst 96 97 C dX3_atOnce_96 rfl (v := 0) rfl ?_
          refine k_callSL 97 100 C [_, _, _] [] dX3_atOnce_97 rfl ct_X3_lowest mi_X3_lowest ml_X3_176 st_X3_lowest rfl rfl ⟨Nat.le_of_ble_eq_true rfl, Nat.le_of_ble_eq_true rfl⟩ (Nat.le_of_ble_eq_true rfl) (Nat.zero_le _) (Nat.zero_le _) (fun r97 V97 p97 => ?_)
          obtain ⟨rfl, rfl⟩ := And.intro p97.1.symm p97.2
          refine k_lret 100 C dX3_atOnce_100 rfl ?_
          exact ⟨rfl, by unfold cAtO cAO; rw [hgo, zclA, zclB, if_pos ⟨⟨ziA, ziB⟩, h43⟩, h51]; simp⟩
        · refine k_tabAt 51 101 C dX3_atOnce_51 (z := 1) h51 rfl rfl rfl (by decide) ?_
          refine k_aload 101 103 C dX3_atOnce_101 rfl 1 rfl ?_
          refine k_aload 103 105 C dX3_atOnce_103 rfl 0 rfl ?_
          refine k_iload_n 105 106 C dX3_atOnce_105 rfl 4 rfl ?_
          refine k_callVL 106 109 C [_] [_] dX3_atOnce_106 rfl (ct_X1_x zqB zvB) mi_X1_x ml_X3_185 im_X1_x se_X1_x ci_X1 (IsDrw.o zqB) rfl rfl ⟨Nat.le_of_ble_eq_true rfl, Nat.le_of_ble_eq_true rfl⟩ (Nat.le_of_ble_eq_true rfl) (Nat.zero_le _) (Nat.zero_le _) (fun r106 V106 p106 => ?_)
          obtain ⟨rfl, rfl⟩ := And.intro p106.1.symm p106.2
          refine k_callVL 109 112 C [_] [] dX3_atOnce_109 rfl (ct_X1_xAtOnce zqA zvA) mi_X1_xAtOnce ml_X3_201 im_X1_xAtOnce se_X1_xAtOnce ci_X1 (IsDrw.o zqA) rfl rfl ⟨Nat.le_of_ble_eq_true rfl, Nat.le_of_ble_eq_true rfl⟩ (Nat.le_of_ble_eq_true rfl) (Nat.zero_le _) (Nat.zero_le _) (fun r109 V109 p109 => ?_)
          obtain ⟨rfl, rfl⟩ := And.intro p109.1.symm p109.2
          refine k_aload 112 114 C dX3_atOnce_112 rfl 1 rfl ?_
          refine k_getN 114 117 C dX3_atOnce_114 rfl ci_X1 2 fn_X3_173 (IsDrw.o zqA) (by decide) rfl ?_
          refine k_rwL (zvA.f2) ?_
          refine k_iconst 117 118 C dX3_atOnce_117 rfl (v := 1) rfl ?_
          refine k_callSL 118 121 C [_, _, _] [] dX3_atOnce_118 rfl ct_X3_lowest mi_X3_lowest ml_X3_176 st_X3_lowest rfl rfl ⟨Nat.le_of_ble_eq_true rfl, Nat.le_of_ble_eq_true rfl⟩ (Nat.le_of_ble_eq_true rfl) (Nat.zero_le _) (Nat.zero_le _) (fun r118 V118 p118 => ?_)
          obtain ⟨rfl, rfl⟩ := And.intro p118.1.symm p118.2
          refine k_lret 121 C dX3_atOnce_121 rfl ?_
          exact ⟨rfl, by unfold cAtO cAO; rw [hgo, zclA, zclB, if_pos ⟨⟨ziA, ziB⟩, h43⟩, h51]; simp⟩
        · refine k_tabAt 51 122 C dX3_atOnce_51 (z := 2) h51 rfl rfl rfl (by decide) ?_
          refine k_aload 122 124 C dX3_atOnce_122 rfl 1 rfl ?_
          refine k_aload 124 126 C dX3_atOnce_124 rfl 0 rfl ?_
          refine k_iload_n 126 127 C dX3_atOnce_126 rfl 4 rfl ?_
          refine k_callVL 127 130 C [_] [_] dX3_atOnce_127 rfl (ct_X1_y zqB zvB) mi_X1_y ml_X3_189 im_X1_y se_X1_y ci_X1 (IsDrw.o zqB) rfl rfl ⟨Nat.le_of_ble_eq_true rfl, Nat.le_of_ble_eq_true rfl⟩ (Nat.le_of_ble_eq_true rfl) (Nat.zero_le _) (Nat.zero_le _) (fun r127 V127 p127 => ?_)
          obtain ⟨rfl, rfl⟩ := And.intro p127.1.symm p127.2
          refine k_callVL 130 133 C [_] [] dX3_atOnce_130 rfl (ct_X1_yAtOnce zqA zvA) mi_X1_yAtOnce ml_X3_205 im_X1_yAtOnce se_X1_yAtOnce ci_X1 (IsDrw.o zqA) rfl rfl ⟨Nat.le_of_ble_eq_true rfl, Nat.le_of_ble_eq_true rfl⟩ (Nat.le_of_ble_eq_true rfl) (Nat.zero_le _) (Nat.zero_le _) (fun r130 V130 p130 => ?_)
          obtain ⟨rfl, rfl⟩ := And.intro p130.1.symm p130.2
          refine k_aload 133 135 C dX3_atOnce_133 rfl 1 rfl ?_
          refine k_getN 135 138 C dX3_atOnce_135 rfl ci_X1 2 fn_X3_173 (IsDrw.o zqA) (by decide) rfl ?_
          refine k_rwL (zvA.f2) ?_
          refine k_iconst 138 139 C dX3_atOnce_138 rfl (v := 0) rfl ?_
          refine k_callSL 139 142 C [_, _, _] [] dX3_atOnce_139 rfl ct_X3_lowest mi_X3_lowest ml_X3_176 st_X3_lowest rfl rfl ⟨Nat.le_of_ble_eq_true rfl, Nat.le_of_ble_eq_true rfl⟩ (Nat.le_of_ble_eq_true rfl) (Nat.zero_le _) (Nat.zero_le _) (fun r139 V139 p139 => ?_)
          obtain ⟨rfl, rfl⟩ := And.intro p139.1.symm p139.2
          refine k_lret 142 C dX3_atOnce_142 rfl ?_
          exact ⟨rfl, by unfold cAtO cAO; rw [hgo, zclA, zclB, if_pos ⟨⟨ziA, ziB⟩, h43⟩, h51]; simp⟩
        · refine k_tabAt 51 143 C dX3_atOnce_51 (z := 3) h51 rfl rfl rfl (by decide) ?_
          refine k_aload 143 145 C dX3_atOnce_143 rfl 1 rfl ?_
          refine k_aload 145 147 C dX3_atOnce_145 rfl 0 rfl ?_
          refine k_iload_n 147 148 C dX3_atOnce_147 rfl 4 rfl ?_
          refine k_callVL 148 151 C [_] [_] dX3_atOnce_148 rfl (ct_X1_y zqB zvB) mi_X1_y ml_X3_189 im_X1_y se_X1_y ci_X1 (IsDrw.o zqB) rfl rfl ⟨Nat.le_of_ble_eq_true rfl, Nat.le_of_ble_eq_true rfl⟩ (Nat.le_of_ble_eq_true rfl) (Nat.zero_le _) (Nat.zero_le _) (fun r148 V148 p148 => ?_)
          obtain ⟨rfl, rfl⟩ := And.intro p148.1.symm p148.2
          refine k_callVL 151 154 C [_] [] dX3_atOnce_151 rfl (ct_X1_yAtOnce zqA zvA) mi_X1_yAtOnce ml_X3_205 im_X1_yAtOnce se_X1_yAtOnce ci_X1 (IsDrw.o zqA) rfl rfl ⟨Nat.le_of_ble_eq_true rfl, Nat.le_of_ble_eq_true rfl⟩ (Nat.le_of_ble_eq_true rfl) (Nat.zero_le _) (Nat.zero_le _) (fun r151 V151 p151 => ?_)
          obtain ⟨rfl, rfl⟩ := And.intro p151.1.symm p151.2
          refine k_aload 154 156 C dX3_atOnce_154 rfl 1 rfl ?_
          refine k_getN 156 159 C dX3_atOnce_156 rfl ci_X1 2 fn_X3_173 (IsDrw.o zqA) (by decide) rfl ?_
          refine k_rwL (zvA.f2) ?_
          refine k_iconst 159 160 C dX3_atOnce_159 rfl (v := 1) rfl ?_
          refine k_callSL 160 163 C [_, _, _] [] dX3_atOnce_160 rfl ct_X3_lowest mi_X3_lowest ml_X3_176 st_X3_lowest rfl rfl ⟨Nat.le_of_ble_eq_true rfl, Nat.le_of_ble_eq_true rfl⟩ (Nat.le_of_ble_eq_true rfl) (Nat.zero_le _) (Nat.zero_le _) (fun r160 V160 p160 => ?_)
          obtain ⟨rfl, rfl⟩ := And.intro p160.1.symm p160.2
          refine k_lret 163 C dX3_atOnce_163 rfl ?_
          exact ⟨rfl, by unfold cAtO cAO; rw [hgo, zclA, zclB, if_pos ⟨⟨ziA, ziB⟩, h43⟩, h51]; simp⟩
      · refine k_ldc2 46 49 C dX3_atOnce_46 rfl kl_X3_183 ?_
        refine k_lret 49 C dX3_atOnce_49 rfl ?_
        first
          | exact ⟨rfl, by unfold cAtO; rw [if_neg (fun zz => zcA zz.1.1)]⟩
          | exact ⟨rfl, by unfold cAtO; rw [hgo, if_neg (fun zz => zcB zz.1.2)]⟩
          | exact ⟨rfl, by unfold cAtO; rw [zclA, if_neg (fun zz => h43 zz.2)]⟩

