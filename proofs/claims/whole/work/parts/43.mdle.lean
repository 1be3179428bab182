theorem rNum_dg {cs : Nat → Int32} {zn : Nat} {P : Rt} (h : (rNum cs zn P).2 = true) : okR (hereM cs zn (rat P)) 48 57 := by
  by_cases g : okR (hereM cs zn (rat P)) 48 57
  · exact g
  · have zD : digM cs zn 4 (rat P) 0 = (rat P, 0) := if_neg g
    unfold rNum at h
    rw [zD, if_pos rfl] at h
    exact absurd (show false = true from h) (by decide)
theorem rPt_lt {cs : Nat → Int32} {zn k : Nat} {q : Int32} {P : Rt} (hk : k ≤ 20) (h : (rPt cs zn k q P).2 = true) : k < 20 := by
  unfold rPt at h
  by_cases e : k = 20
  · by_cases g : okR (hereM cs zn (rat P)) 48 57
    · rw [if_pos ⟨e, g⟩] at h; exact absurd (show false = true from h) (by decide)
    · rw [if_neg (fun zz => g zz.2), if_neg (fun zz => g (rNum_dg zz))] at h; exact absurd (show false = true from h) (by decide)
  · omega
def rCt (cs : Nat → Int32) (zn w k : Nat) (A : Rt) : Rt × Option Nat := if hereM cs zn (rat A) = 45 ∨ hereM cs zn (rat A) = 32 then rLp cs zn w (k + 1) (if hereM cs zn (rat A) = 45 then 1 else 0) (rAt A (rat A + 1)) else (A, some (k + 1))
theorem rLp_t {cs : Nat → Int32} {zn w k : Nat} {q : Int32} {P : Rt} (h : (rPt cs zn k q P).2 = true) : rLp cs zn (w + 1) k q P = rCt cs zn w k (rPt cs zn k q P).1 := if_pos h
theorem rLp_f {cs : Nat → Int32} {zn w k : Nat} {q : Int32} {P : Rt} (h : ¬ (rPt cs zn k q P).2 = true) : rLp cs zn (w + 1) k q P = ((rPt cs zn k q P).1, none) := if_neg h
theorem rLp_b {cs : Nat → Int32} {zn : Nat} : ∀ (w k : Nat) (q : Int32) (P : Rt) (j : Nat), k + w = 21 → (rLp cs zn w k q P).2 = some j → 1 ≤ j ∧ j ≤ 20
  | 0, k, q, P, j, _, h => by exact absurd h (by intro z; cases z)
  | w + 1, k, q, P, j, hk, h => by
    by_cases e : (rPt cs zn k q P).2 = true
    · rw [rLp_t e] at h
      have z := rPt_lt (by omega) e
      unfold rCt at h
      split at h
      · exact rLp_b w (k + 1) _ _ j (by omega) h
      · injection h with h; omega
    · rw [rLp_f e] at h
      exact absurd h (by intro z; cases z)
theorem rTxt_b {cs : Nat → Int32} {zn j : Nat} {P : Rt} (h : (rTxt cs zn P).2 = some j) : 1 ≤ j ∧ j ≤ 20 := by
  unfold rTxt rFin at h
  split at h
  · exact absurd h (by intro z; cases z)
  · rename_i k e
    split at h
    · split at h
      · injection h with h; subst h; exact rLp_b 21 0 0 _ _ rfl e
      · exact absurd h (by intro z; cases z)
    · exact absurd h (by intro z; cases z)
def txN : Option Nat → Int32
  | none => -1
  | some k => nI k
theorem txN_n {cs : Nat → Int32} {zn : Nat} {P : Rt} : txN (rTxt cs zn P).2 = -1 ↔ (rTxt cs zn P).2 = none := by
  constructor
  · intro h
    cases e : (rTxt cs zn P).2 with
    | none => rfl
    | some k =>
      rw [e] at h
      have z := rTxt_b e
      exfalso
      have z2 : (nI k).toInt = (-1 : Int32).toInt := by rw [show nI k = -1 from h]
      rw [nI_toInt (by omega)] at z2
      have z3 : (-1 : Int32).toInt = -1 := by decide
      omega
  · intro h; rw [h]; rfl
set_option maxHeartbeats 4000000 in
set_option maxRecDepth 100000 in
theorem ct_X4_readPoint {E : gE} {T : gT} {l : Launch} {V : gV} {k : Nat} {q : Int32} {M zn : Nat} {cs : Nat → Int32} {P : Rt} (hM : IsMdl T M) (hq : RQ V M zn cs P) (hk : k ≤ 20) : CtI E T l yX4_readPoint (gw yX4_readPoint cX4_readPoint 4 (some .boolean)) { frames := 2, cells := 0, slots := 0, locals := 43 } [.ref M, .int (nI k), .int q] V (fun (r : Int32) (V' : gV) => r = bi ((rPt cs zn k q P).2 = true) ∧ RQ V' M zn cs (rPt cs zn k q P).1 ∧ KtR V V' M) := by
  refine ctI_of (L := [(0, .ref M), (1, .int (nI k)), (2, .int q)]) (by decide) rfl (Nat.le_of_ble_eq_true rfl) rfl (fun p e s m args below meth c C => ?_)
  refine k_iload_n 0 1 C dX4_readPoint_0 rfl 1 rfl ?_
  refine k_bipush 1 3 C dX4_readPoint_1 rfl (v := 20) rfl ?_
  refine k_icmp_ne 3 27 6 C dX4_readPoint_3 (by decide) rfl (fun h3 => ?_) (fun h3 => ?_)
  · have z3 : ¬ k = 20 := fun zz => h3 (by rw [zz]; rfl)
    have zc : ¬ (k = 20 ∧ okR (hereM cs zn (rat P)) 48 57) := fun zz => z3 zz.1
    refine k_aload_n 27 28 C dX4_readPoint_27 rfl 0 rfl ?_
    refine k_callVI 28 31 C [] [] dX4_readPoint_28 rfl (ct_X4_readNumber hM hq) mi_X4_readNumber ml_X4_209 im_X4_readNumber se_X4_readNumber ci_X4 (IsMdl.o ‹_›) rfl rfl ⟨Nat.le_of_ble_eq_true rfl, Nat.le_of_ble_eq_true rfl⟩ (Nat.le_of_ble_eq_true rfl) (Nat.zero_le _) (Nat.zero_le _) (fun r28 V28 p28 => ?_)
    obtain ⟨rfl, q2, k2⟩ := p28
    refine k_ifb_ne 31 36 34 C dX4_readPoint_31 (by decide) rfl (fun h31 => ?_) (fun h31 => ?_)
    · have zk : k < 20 := by
        have z3 : ¬ k = 20 := fun zz => zc ⟨zz, rNum_dg h31⟩
        omega
      have zE : rPt cs zn k q P = rPt2 cs zn k q (rnu (rNum cs zn P).1) (rNum cs zn P).1 := by unfold rPt; rw [if_neg zc, if_pos h31]
      refine k_aload_n 36 37 C dX4_readPoint_36 rfl 0 rfl ?_
      refine k_get 37 40 C dX4_readPoint_37 rfl ci_X4 10 fl_X4_200 (IsMdl.o ‹_›) (by decide) rfl ?_
      refine k_rwI (y := rnu (rNum cs zn P).1) q2.nu ?_
      refine k_istore_n 40 41 C [(3, _), (0, _), (1, _), (2, _)] dX4_readPoint_40 rfl (by decide) rfl ?_
      refine k_aload_n 41 42 C dX4_readPoint_41 rfl 1 rfl ?_
      refine k_callVI 42 45 C [] [] dX4_readPoint_42 rfl (ct_X4_here hM q2) mi_X4_here ml_X4_203 im_X4_here se_X4_here ci_X4 (IsMdl.o ‹_›) rfl rfl ⟨Nat.le_of_ble_eq_true rfl, Nat.le_of_ble_eq_true rfl⟩ (Nat.le_of_ble_eq_true rfl) (Nat.zero_le _) (Nat.zero_le _) (fun r42 V42 p42 => ?_)
      obtain ⟨rfl, rfl⟩ := And.intro p42.1.symm p42.2
      refine k_bipush 45 47 C dX4_readPoint_45 rfl (v := 44) rfl ?_
      refine k_icmp_eq 47 55 50 C dX4_readPoint_47 (by decide) rfl (fun h47 => ?_) (fun h47 => ?_)
      · refine k_aload_n 55 56 C dX4_readPoint_55 rfl 1 rfl ?_
        refine k_dup 56 57 C dX4_readPoint_56 rfl rfl ?_
        refine k_get 57 60 C dX4_readPoint_57 rfl ci_X4 8 fl_X4_194 (IsMdl.o ‹_›) (by decide) rfl ?_
        refine k_rwI (y := nI (rat (rNum cs zn P).1)) q2.a ?_
        refine k_iconst 60 61 C dX4_readPoint_60 rfl (v := 1) rfl ?_
        refine k_iadd 61 62 C dX4_readPoint_61 rfl  ?_
        refine k_rwI (y := nI (rat (rNum cs zn P).1 + 1)) (nI_1 _) ?_
        refine k_put 62 65 C dX4_readPoint_62 rfl ci_X4 8 fl_X4_194 (IsMdl.o ‹_›) (by decide) rfl rfl rfl wI_off (ps_4_8 _ _ _ _) ?_
        have y3 := q2.wA (a := rat (rNum cs zn P).1 + 1) (hereM_lt h47 (by decide))
        refine k_aload_n 65 66 C dX4_readPoint_65 rfl 1 rfl ?_
        refine k_callVI 66 69 C [] [] dX4_readPoint_66 rfl (ct_X4_readNumber hM y3.1) mi_X4_readNumber ml_X4_209 im_X4_readNumber se_X4_readNumber ci_X4 (IsMdl.o ‹_›) rfl rfl ⟨Nat.le_of_ble_eq_true rfl, Nat.le_of_ble_eq_true rfl⟩ (Nat.le_of_ble_eq_true rfl) (Nat.zero_le _) (Nat.zero_le _) (fun r66 V66 p66 => ?_)
        obtain ⟨rfl, q4, k4⟩ := p66
        refine k_ifb_ne 69 74 72 C dX4_readPoint_69 (by decide) rfl (fun h69 => ?_) (fun h69 => ?_)
        · have zR : rPt cs zn k q P = (rPsh (rNum cs zn (rAt (rNum cs zn P).1 (rat (rNum cs zn P).1 + 1))).1 k (rnu (rNum cs zn P).1) q, true) := by rw [zE]; unfold rPt2; rw [if_pos h47, if_pos h69]
          refine k_aload_n 74 75 C dX4_readPoint_74 rfl 1 rfl ?_
          refine k_getF 75 78 C dX4_readPoint_75 rfl ci_X4 11 fl_X4_23 (IsMdl.o ‹_›) (by decide) (IsMdl.f11 ‹_›) rfl ?_
          refine k_iconst 78 79 C dX4_readPoint_78 rfl (v := 3) rfl ?_
          refine k_iload_n 79 80 C dX4_readPoint_79 rfl 2 rfl ?_
          refine k_imul 80 81 C dX4_readPoint_80 rfl  ?_
          refine k_rwI (y := nI (3 * k)) (pk_mul (3) (k)) ?_
          refine k_iload_n 81 82 C dX4_readPoint_81 rfl 0 rfl ?_
          refine k_iast 82 83 C dX4_readPoint_82 rfl (IsMdl.a11 ‹_›) (vp_in_nI (show 3 * k < 60 by omega) (by decide)) ?_
          rw [nI_clamp (show 3 * k < 2 ^ 31 by omega)]
          have y5 := q4.wP (k := 3 * k) (x := rnu (rNum cs zn P).1)
          refine k_aload_n 83 84 C dX4_readPoint_83 rfl 1 rfl ?_
          refine k_getF 84 87 C dX4_readPoint_84 rfl ci_X4 11 fl_X4_23 (IsMdl.o ‹_›) (by decide) (IsMdl.f11 ‹_›) rfl ?_
          refine k_iconst 87 88 C dX4_readPoint_87 rfl (v := 3) rfl ?_
          refine k_iload_n 88 89 C dX4_readPoint_88 rfl 2 rfl ?_
          refine k_imul 89 90 C dX4_readPoint_89 rfl  ?_
          refine k_rwI (y := nI (3 * k)) (pk_mul (3) (k)) ?_
          refine k_iconst 90 91 C dX4_readPoint_90 rfl (v := 1) rfl ?_
          refine k_iadd 91 92 C dX4_readPoint_91 rfl  ?_
          refine k_rwI (y := nI ((3 * k) + (1))) (nI_add (3 * k) (1)) ?_
          refine k_aload_n 92 93 C dX4_readPoint_92 rfl 1 rfl ?_
          refine k_get 93 96 C dX4_readPoint_93 rfl ci_X4 10 fl_X4_200 (IsMdl.o ‹_›) (by decide) rfl ?_
          refine k_rwI (y := rnu (rNum cs zn (rAt (rNum cs zn P).1 (rat (rNum cs zn P).1 + 1))).1) y5.1.nu ?_
          refine k_iast 96 97 C dX4_readPoint_96 rfl (IsMdl.a11 ‹_›) (vp_in_nI (show 3 * k + 1 < 60 by omega) (by decide)) ?_
          rw [nI_clamp (show 3 * k + 1 < 2 ^ 31 by omega)]
          have y6 := y5.1.wP (k := 3 * k + 1) (x := rnu (rNum cs zn (rAt (rNum cs zn P).1 (rat (rNum cs zn P).1 + 1))).1)
          refine k_aload_n 97 98 C dX4_readPoint_97 rfl 1 rfl ?_
          refine k_getF 98 101 C dX4_readPoint_98 rfl ci_X4 11 fl_X4_23 (IsMdl.o ‹_›) (by decide) (IsMdl.f11 ‹_›) rfl ?_
          refine k_iconst 101 102 C dX4_readPoint_101 rfl (v := 3) rfl ?_
          refine k_iload_n 102 103 C dX4_readPoint_102 rfl 2 rfl ?_
          refine k_imul 103 104 C dX4_readPoint_103 rfl  ?_
          refine k_rwI (y := nI (3 * k)) (pk_mul (3) (k)) ?_
          refine k_iconst 104 105 C dX4_readPoint_104 rfl (v := 2) rfl ?_
          refine k_iadd 105 106 C dX4_readPoint_105 rfl  ?_
          refine k_rwI (y := nI ((3 * k) + (2))) (nI_add (3 * k) (2)) ?_
          refine k_iload_n 106 107 C dX4_readPoint_106 rfl 3 rfl ?_
          refine k_iast 107 108 C dX4_readPoint_107 rfl (IsMdl.a11 ‹_›) (vp_in_nI (show 3 * k + 2 < 60 by omega) (by decide)) ?_
          rw [nI_clamp (show 3 * k + 2 < 2 ^ 31 by omega)]
          have y7 := y6.1.wP (k := 3 * k + 2) (x := q)
          refine k_iconst 108 109 C dX4_readPoint_108 rfl (v := 1) rfl ?_
          refine k_zret 109 C dX4_readPoint_109 rfl (by first | exact Or.inl rfl | exact Or.inr rfl | exact bi_01) ?_
          rw [zR]
          exact ⟨rfl, y7.1, ((((k2.trans y3.2).trans k4).trans y5.2).trans y6.2).trans y7.2⟩
        · have zR : rPt cs zn k q P = ((rNum cs zn (rAt (rNum cs zn P).1 (rat (rNum cs zn P).1 + 1))).1, false) := by rw [zE]; unfold rPt2; rw [if_pos h47, if_neg h69]
          refine k_iconst 72 73 C dX4_readPoint_72 rfl (v := 0) rfl ?_
          refine k_zret 73 C dX4_readPoint_73 rfl (by first | exact Or.inl rfl | exact Or.inr rfl | exact bi_01) ?_
          rw [zR]
          exact ⟨rfl, q4, (k2.trans y3.2).trans k4⟩
      · have zR : rPt cs zn k q P = (rFH (rNum cs zn P).1 zn, false) := by rw [zE]; unfold rPt2; rw [if_neg h47]
        refine k_aload_n 50 51 C dX4_readPoint_50 rfl 1 rfl ?_
        refine k_callVI 51 54 C [] [] dX4_readPoint_51 rfl (ct_X4_isFault hM q2) mi_X4_isFault ml_X4_206 im_X4_isFault se_X4_isFault ci_X4 (IsMdl.o ‹_›) rfl rfl ⟨Nat.le_of_ble_eq_true rfl, Nat.le_of_ble_eq_true rfl⟩ (Nat.le_of_ble_eq_true rfl) (Nat.zero_le _) (Nat.zero_le _) (fun r51 V51 p51 => ?_)
        refine k_zret 54 C dX4_readPoint_54 rfl (Or.inl p51.1) ?_
        rw [zR]
        exact ⟨p51.1, p51.2.1, k2.trans p51.2.2⟩
    · have zR : rPt cs zn k q P = ((rNum cs zn P).1, false) := by unfold rPt; rw [if_neg zc, if_neg h31]
      refine k_iconst 34 35 C dX4_readPoint_34 rfl (v := 0) rfl ?_
      refine k_zret 35 C dX4_readPoint_35 rfl (by first | exact Or.inl rfl | exact Or.inr rfl | exact bi_01) ?_
      rw [zR]
      exact ⟨rfl, q2, k2⟩
  · have z3 : k = 20 := (nI_eq (by omega) (by decide)).mp (h3 : nI k = nI 20)
    refine k_aload_n 6 7 C dX4_readPoint_6 rfl 0 rfl ?_
    refine k_callVI 7 10 C [] [] dX4_readPoint_7 rfl (ct_X4_here hM hq) mi_X4_here ml_X4_203 im_X4_here se_X4_here ci_X4 (IsMdl.o ‹_›) rfl rfl ⟨Nat.le_of_ble_eq_true rfl, Nat.le_of_ble_eq_true rfl⟩ (Nat.le_of_ble_eq_true rfl) (Nat.zero_le _) (Nat.zero_le _) (fun r7 V7 p7 => ?_)
    obtain ⟨rfl, rfl⟩ := And.intro p7.1.symm p7.2
    refine k_bipush 10 12 C dX4_readPoint_10 rfl (v := 48) rfl ?_
    refine k_bipush 12 14 C dX4_readPoint_12 rfl (v := 57) rfl ?_
    refine k_callSI 14 17 C [_, _, _] [] dX4_readPoint_14 rfl ct_X4_in mi_X4_in ml_X4_57 st_X4_in rfl rfl ⟨Nat.le_of_ble_eq_true rfl, Nat.le_of_ble_eq_true rfl⟩ (Nat.le_of_ble_eq_true rfl) (Nat.zero_le _) (Nat.zero_le _) (fun r14 V14 p14 => ?_)
    obtain ⟨rfl, rfl⟩ := And.intro p14.1.symm p14.2
    refine k_ifb_eq 17 27 20 C dX4_readPoint_17 (by decide) rfl (fun h17 => ?_) (fun h17 => ?_)
    · have zc : ¬ (k = 20 ∧ okR (hereM cs zn (rat P)) 48 57) := fun zz => h17 zz.2
      refine k_aload_n 27 28 C dX4_readPoint_27 rfl 0 rfl ?_
      refine k_callVI 28 31 C [] [] dX4_readPoint_28 rfl (ct_X4_readNumber hM hq) mi_X4_readNumber ml_X4_209 im_X4_readNumber se_X4_readNumber ci_X4 (IsMdl.o ‹_›) rfl rfl ⟨Nat.le_of_ble_eq_true rfl, Nat.le_of_ble_eq_true rfl⟩ (Nat.le_of_ble_eq_true rfl) (Nat.zero_le _) (Nat.zero_le _) (fun r28 V28 p28 => ?_)
      obtain ⟨rfl, q2, k2⟩ := p28
      refine k_ifb_ne 31 36 34 C dX4_readPoint_31 (by decide) rfl (fun h31 => ?_) (fun h31 => ?_)
      · have zk : k < 20 := by
          have z3 : ¬ k = 20 := fun zz => zc ⟨zz, rNum_dg h31⟩
          omega
        have zE : rPt cs zn k q P = rPt2 cs zn k q (rnu (rNum cs zn P).1) (rNum cs zn P).1 := by unfold rPt; rw [if_neg zc, if_pos h31]
        refine k_aload_n 36 37 C dX4_readPoint_36 rfl 0 rfl ?_
        refine k_get 37 40 C dX4_readPoint_37 rfl ci_X4 10 fl_X4_200 (IsMdl.o ‹_›) (by decide) rfl ?_
        refine k_rwI (y := rnu (rNum cs zn P).1) q2.nu ?_
        refine k_istore_n 40 41 C [(3, _), (0, _), (1, _), (2, _)] dX4_readPoint_40 rfl (by decide) rfl ?_
        refine k_aload_n 41 42 C dX4_readPoint_41 rfl 1 rfl ?_
        refine k_callVI 42 45 C [] [] dX4_readPoint_42 rfl (ct_X4_here hM q2) mi_X4_here ml_X4_203 im_X4_here se_X4_here ci_X4 (IsMdl.o ‹_›) rfl rfl ⟨Nat.le_of_ble_eq_true rfl, Nat.le_of_ble_eq_true rfl⟩ (Nat.le_of_ble_eq_true rfl) (Nat.zero_le _) (Nat.zero_le _) (fun r42 V42 p42 => ?_)
        obtain ⟨rfl, rfl⟩ := And.intro p42.1.symm p42.2
        refine k_bipush 45 47 C dX4_readPoint_45 rfl (v := 44) rfl ?_
        refine k_icmp_eq 47 55 50 C dX4_readPoint_47 (by decide) rfl (fun h47 => ?_) (fun h47 => ?_)
        · refine k_aload_n 55 56 C dX4_readPoint_55 rfl 1 rfl ?_
          refine k_dup 56 57 C dX4_readPoint_56 rfl rfl ?_
          refine k_get 57 60 C dX4_readPoint_57 rfl ci_X4 8 fl_X4_194 (IsMdl.o ‹_›) (by decide) rfl ?_
          refine k_rwI (y := nI (rat (rNum cs zn P).1)) q2.a ?_
          refine k_iconst 60 61 C dX4_readPoint_60 rfl (v := 1) rfl ?_
          refine k_iadd 61 62 C dX4_readPoint_61 rfl  ?_
          refine k_rwI (y := nI (rat (rNum cs zn P).1 + 1)) (nI_1 _) ?_
          refine k_put 62 65 C dX4_readPoint_62 rfl ci_X4 8 fl_X4_194 (IsMdl.o ‹_›) (by decide) rfl rfl rfl wI_off (ps_4_8 _ _ _ _) ?_
          have y3 := q2.wA (a := rat (rNum cs zn P).1 + 1) (hereM_lt h47 (by decide))
          refine k_aload_n 65 66 C dX4_readPoint_65 rfl 1 rfl ?_
          refine k_callVI 66 69 C [] [] dX4_readPoint_66 rfl (ct_X4_readNumber hM y3.1) mi_X4_readNumber ml_X4_209 im_X4_readNumber se_X4_readNumber ci_X4 (IsMdl.o ‹_›) rfl rfl ⟨Nat.le_of_ble_eq_true rfl, Nat.le_of_ble_eq_true rfl⟩ (Nat.le_of_ble_eq_true rfl) (Nat.zero_le _) (Nat.zero_le _) (fun r66 V66 p66 => ?_)
          obtain ⟨rfl, q4, k4⟩ := p66
          refine k_ifb_ne 69 74 72 C dX4_readPoint_69 (by decide) rfl (fun h69 => ?_) (fun h69 => ?_)
          · have zR : rPt cs zn k q P = (rPsh (rNum cs zn (rAt (rNum cs zn P).1 (rat (rNum cs zn P).1 + 1))).1 k (rnu (rNum cs zn P).1) q, true) := by rw [zE]; unfold rPt2; rw [if_pos h47, if_pos h69]
            refine k_aload_n 74 75 C dX4_readPoint_74 rfl 1 rfl ?_
            refine k_getF 75 78 C dX4_readPoint_75 rfl ci_X4 11 fl_X4_23 (IsMdl.o ‹_›) (by decide) (IsMdl.f11 ‹_›) rfl ?_
            refine k_iconst 78 79 C dX4_readPoint_78 rfl (v := 3) rfl ?_
            refine k_iload_n 79 80 C dX4_readPoint_79 rfl 2 rfl ?_
            refine k_imul 80 81 C dX4_readPoint_80 rfl  ?_
            refine k_rwI (y := nI (3 * k)) (pk_mul (3) (k)) ?_
            refine k_iload_n 81 82 C dX4_readPoint_81 rfl 0 rfl ?_
            refine k_iast 82 83 C dX4_readPoint_82 rfl (IsMdl.a11 ‹_›) (vp_in_nI (show 3 * k < 60 by omega) (by decide)) ?_
            rw [nI_clamp (show 3 * k < 2 ^ 31 by omega)]
            have y5 := q4.wP (k := 3 * k) (x := rnu (rNum cs zn P).1)
            refine k_aload_n 83 84 C dX4_readPoint_83 rfl 1 rfl ?_
            refine k_getF 84 87 C dX4_readPoint_84 rfl ci_X4 11 fl_X4_23 (IsMdl.o ‹_›) (by decide) (IsMdl.f11 ‹_›) rfl ?_
            refine k_iconst 87 88 C dX4_readPoint_87 rfl (v := 3) rfl ?_
            refine k_iload_n 88 89 C dX4_readPoint_88 rfl 2 rfl ?_
            refine k_imul 89 90 C dX4_readPoint_89 rfl  ?_
            refine k_rwI (y := nI (3 * k)) (pk_mul (3) (k)) ?_
            refine k_iconst 90 91 C dX4_readPoint_90 rfl (v := 1) rfl ?_
            refine k_iadd 91 92 C dX4_readPoint_91 rfl  ?_
            refine k_rwI (y := nI ((3 * k) + (1))) (nI_add (3 * k) (1)) ?_
            refine k_aload_n 92 93 C dX4_readPoint_92 rfl 1 rfl ?_
            refine k_get 93 96 C dX4_readPoint_93 rfl ci_X4 10 fl_X4_200 (IsMdl.o ‹_›) (by decide) rfl ?_
            refine k_rwI (y := rnu (rNum cs zn (rAt (rNum cs zn P).1 (rat (rNum cs zn P).1 + 1))).1) y5.1.nu ?_
            refine k_iast 96 97 C dX4_readPoint_96 rfl (IsMdl.a11 ‹_›) (vp_in_nI (show 3 * k + 1 < 60 by omega) (by decide)) ?_
            rw [nI_clamp (show 3 * k + 1 < 2 ^ 31 by omega)]
            have y6 := y5.1.wP (k := 3 * k + 1) (x := rnu (rNum cs zn (rAt (rNum cs zn P).1 (rat (rNum cs zn P).1 + 1))).1)
            refine k_aload_n 97 98 C dX4_readPoint_97 rfl 1 rfl ?_
            refine k_getF 98 101 C dX4_readPoint_98 rfl ci_X4 11 fl_X4_23 (IsMdl.o ‹_›) (by decide) (IsMdl.f11 ‹_›) rfl ?_
            refine k_iconst 101 102 C dX4_readPoint_101 rfl (v := 3) rfl ?_
            refine k_iload_n 102 103 C dX4_readPoint_102 rfl 2 rfl ?_
            refine k_imul 103 104 C dX4_readPoint_103 rfl  ?_
            refine k_rwI (y := nI (3 * k)) (pk_mul (3) (k)) ?_
            refine k_iconst 104 105 C dX4_readPoint_104 rfl (v := 2) rfl ?_
            refine k_iadd 105 106 C dX4_readPoint_105 rfl  ?_
            refine k_rwI (y := nI ((3 * k) + (2))) (nI_add (3 * k) (2)) ?_
            refine k_iload_n 106 107 C dX4_readPoint_106 rfl 3 rfl ?_
            refine k_iast 107 108 C dX4_readPoint_107 rfl (IsMdl.a11 ‹_›) (vp_in_nI (show 3 * k + 2 < 60 by omega) (by decide)) ?_
            rw [nI_clamp (show 3 * k + 2 < 2 ^ 31 by omega)]
            have y7 := y6.1.wP (k := 3 * k + 2) (x := q)
            refine k_iconst 108 109 C dX4_readPoint_108 rfl (v := 1) rfl ?_
            refine k_zret 109 C dX4_readPoint_109 rfl (by first | exact Or.inl rfl | exact Or.inr rfl | exact bi_01) ?_
            rw [zR]
            exact ⟨rfl, y7.1, ((((k2.trans y3.2).trans k4).trans y5.2).trans y6.2).trans y7.2⟩
          · have zR : rPt cs zn k q P = ((rNum cs zn (rAt (rNum cs zn P).1 (rat (rNum cs zn P).1 + 1))).1, false) := by rw [zE]; unfold rPt2; rw [if_pos h47, if_neg h69]
            refine k_iconst 72 73 C dX4_readPoint_72 rfl (v := 0) rfl ?_
            refine k_zret 73 C dX4_readPoint_73 rfl (by first | exact Or.inl rfl | exact Or.inr rfl | exact bi_01) ?_
            rw [zR]
            exact ⟨rfl, q4, (k2.trans y3.2).trans k4⟩
        · have zR : rPt cs zn k q P = (rFH (rNum cs zn P).1 zn, false) := by rw [zE]; unfold rPt2; rw [if_neg h47]
          refine k_aload_n 50 51 C dX4_readPoint_50 rfl 1 rfl ?_
          refine k_callVI 51 54 C [] [] dX4_readPoint_51 rfl (ct_X4_isFault hM q2) mi_X4_isFault ml_X4_206 im_X4_isFault se_X4_isFault ci_X4 (IsMdl.o ‹_›) rfl rfl ⟨Nat.le_of_ble_eq_true rfl, Nat.le_of_ble_eq_true rfl⟩ (Nat.le_of_ble_eq_true rfl) (Nat.zero_le _) (Nat.zero_le _) (fun r51 V51 p51 => ?_)
          refine k_zret 54 C dX4_readPoint_54 rfl (Or.inl p51.1) ?_
          rw [zR]
          exact ⟨p51.1, p51.2.1, k2.trans p51.2.2⟩
      · have zR : rPt cs zn k q P = ((rNum cs zn P).1, false) := by unfold rPt; rw [if_neg zc, if_neg h31]
        refine k_iconst 34 35 C dX4_readPoint_34 rfl (v := 0) rfl ?_
        refine k_zret 35 C dX4_readPoint_35 rfl (by first | exact Or.inl rfl | exact Or.inr rfl | exact bi_01) ?_
        rw [zR]
        exact ⟨rfl, q2, k2⟩
    · have zR : rPt cs zn k q P = (rFr P 4, false) := by unfold rPt; rw [if_pos ⟨z3, h17⟩]
      refine k_aload_n 20 21 C dX4_readPoint_20 rfl 0 rfl ?_
      refine k_iconst 21 22 C dX4_readPoint_21 rfl (v := 4) rfl ?_
      refine k_put 22 25 C dX4_readPoint_22 rfl ci_X4 9 fl_X4_197 (IsMdl.o ‹_›) (by decide) rfl rfl rfl wI_off (ps_4_9 _ _ _ _) ?_
      refine k_iconst 25 26 C dX4_readPoint_25 rfl (v := 0) rfl ?_
      refine k_zret 26 C dX4_readPoint_26 rfl (by first | exact Or.inl rfl | exact Or.inr rfl | exact bi_01) ?_
      rw [zR]
      exact ⟨rfl, hq.wF⟩
/-- the reading's fields before a reading: where it stands says nothing -/
def RQ0 (V : gV) (M zn : Nat) (cs : Nat → Int32) (P : Rt) : Prop := TQ V M zn cs ∧ V.1 M 9 = rfr P ∧ V.1 M 10 = rnu P ∧ ∀ j, j < 60 → V.1 (M + 5) j = rrd P j
theorem RQ.rw {V : gV} {M zn : Nat} {cs : Nat → Int32} {P : Rt} (g : RQ V M zn cs P) : RQ0 V M zn cs P := ⟨g.t, g.fr, g.nu, g.rd⟩
theorem RQ0.wA {V : gV} {M zn : Nat} {cs : Nat → Int32} {P : Rt} (g : RQ0 V M zn cs P) : RQ (wI V M 8 (nI 0)) M zn cs (rAt P 0) ∧ KtR V (wI V M 8 (nI 0)) M := ⟨⟨g.1.w (KtR.w (by omega)), rw_s, Nat.zero_le _, by rw [rw_M (by omega)]; exact g.2.1, by rw [rw_M (by omega)]; exact g.2.2.1, fun j hj => by rw [rw_b (show M + 5 ≠ M by omega)]; exact g.2.2.2 j hj⟩, KtR.w (by omega)⟩
set_option maxHeartbeats 4000000 in
set_option maxRecDepth 100000 in
theorem ct_X4_readText {E : gE} {T : gT} {l : Launch} {V : gV} {M zn : Nat} {cs : Nat → Int32} {P : Rt} (hM : IsMdl T M) (hq : RQ0 V M zn cs P) : CtI E T l yX4_readText (gw yX4_readText cX4_readText 6 (some .int)) { frames := 3, cells := 0, slots := 0, locals := 66 } [.ref M] V (fun (r : Int32) (V' : gV) => r = txN (rTxt cs zn P).2 ∧ RQ V' M zn cs (rTxt cs zn P).1 ∧ KtR V V' M) := by
  refine ctI_of (L := [(0, .ref M)]) (by decide) rfl (Nat.le_of_ble_eq_true rfl) rfl (fun p e s m args below meth c C => ?_)
  have loop49 : ∀ (zf : Nat) (V1 : gV) (k w : Nat) (q : Int32) (A : Rt), w = zf → (k + w = 20) → (k < 20) → (RQ V1 M zn cs A) → (KtR V V1 M) → ((if hereM cs zn (rat A) = 45 then (1 : Int32) else 0) = q) → (rTxt cs zn P = rFin cs zn (rCt cs zn w k A)) → KW E T V1 p l e { frames := 3, cells := 0, slots := 0, locals := 66 } s m args below meth c 6 0 0 (MQ below (va_Qi (fun (r : Int32) (V' : gV) => r = txN (rTxt cs zn P).2 ∧ RQ V' M zn cs (rTxt cs zn P).1 ∧ KtR V V' M) (RepS E T) (gA E)) args s 0 0 (gA E)) 49 [(3, .int q), (1, .int (nI (k + 1))), (0, .ref M)] [] := by
    intro zf
    induction zf using Nat.strongRecOn with
    | _ zf ih =>
    intro V1 k w q A zhf hkw hk q1 k1 hgq hg
    refine k_aload_n 49 50 C dX4_readText_49 rfl 2 rfl ?_
    refine k_callVI 50 53 C [] [] dX4_readText_50 rfl (ct_X4_here hM q1) mi_X4_here ml_X4_203 im_X4_here se_X4_here ci_X4 (IsMdl.o ‹_›) rfl rfl ⟨Nat.le_of_ble_eq_true rfl, Nat.le_of_ble_eq_true rfl⟩ (Nat.le_of_ble_eq_true rfl) (Nat.zero_le _) (Nat.zero_le _) (fun r50 V50 p50 => ?_)
    obtain ⟨rfl, rfl⟩ := And.intro p50.1.symm p50.2
    refine k_bipush 53 55 C dX4_readText_53 rfl (v := 45) rfl ?_
    refine k_icmp_eq 55 67 58 C dX4_readText_55 (by decide) rfl (fun h55 => ?_) (fun h55 => ?_)
    · have zlt : rat A < zn := hereM_lt h55 (by decide)
      obtain ⟨w2, rfl⟩ : ∃ w2, w = w2 + 1 := ⟨w - 1, by omega⟩
      have zc : rCt cs zn (w2 + 1) k A = rLp cs zn (w2 + 1) (k + 1) q (rAt A (rat A + 1)) := by unfold rCt; rw [if_pos (Or.inl h55), hgq]
      refine k_iconst 67 68 C dX4_readText_67 rfl (v := 1) rfl ?_
      refine k_goto 68 72 C dX4_readText_68 (by decide) ?_
      refine k_istore_n 72 73 C [(2, _), (3, _), (1, _), (0, _)] dX4_readText_72 rfl (by decide) rfl ?_
      refine k_aload_n 73 74 C dX4_readText_73 rfl 3 rfl ?_
      refine k_dup 74 75 C dX4_readText_74 rfl rfl ?_
      refine k_get 75 78 C dX4_readText_75 rfl ci_X4 8 fl_X4_194 (IsMdl.o ‹_›) (by decide) rfl ?_
      refine k_rwI (y := nI (rat A)) q1.a ?_
      refine k_iload_n 78 79 C dX4_readText_78 rfl 0 rfl ?_
      refine k_if_eq 79 86 82 C dX4_readText_79 (by decide) rfl (fun h79 => ?_) (fun h79 => ?_)
      · exact absurd h79 (by decide)
      · refine k_iconst 82 83 C dX4_readText_82 rfl (v := 1) rfl ?_
        refine k_goto 83 87 C dX4_readText_83 (by decide) ?_
        refine k_iadd 87 88 C dX4_readText_87 rfl  ?_
        first
          | refine k_rwI (y := nI (rat A + 1)) (nI_1 (rat A)) ?_
          | refine k_rwI (y := nI (rat A)) (nI_add (rat A) 0) ?_
        refine k_put 88 91 C dX4_readText_88 rfl ci_X4 8 fl_X4_194 (IsMdl.o ‹_›) (by decide) rfl rfl rfl wI_off (ps_4_8 _ _ _ _) ?_
        first
          | have y1 := q1.wA (a := rat A + 1) zlt
          | have y1 : RQ _ M zn cs A ∧ KtR V1 _ M := q1.wA (a := rat A) q1.le
        refine k_goto 91 16 C dX4_readText_91 (by decide) ?_
        refine k_iload_n 16 17 C dX4_readText_16 rfl 0 rfl ?_
        refine k_if_eq 17 94 20 C dX4_readText_17 (by decide) rfl (fun h17 => ?_) (fun h17 => ?_)
        · exact absurd h17 (by decide)
        · refine k_aload_n 20 21 C dX4_readText_20 rfl 3 rfl ?_
          refine k_iload_n 21 22 C dX4_readText_21 rfl 2 rfl ?_
          refine k_iload_n 22 23 C dX4_readText_22 rfl 1 rfl ?_
          refine k_callVI 23 26 C [_, _] [] dX4_readText_23 rfl (ct_X4_readPoint (k := k + 1) (q := q) hM y1.1 (by omega)) mi_X4_readPoint ml_X4_212 im_X4_readPoint se_X4_readPoint ci_X4 (IsMdl.o ‹_›) rfl rfl ⟨Nat.le_of_ble_eq_true rfl, Nat.le_of_ble_eq_true rfl⟩ (Nat.le_of_ble_eq_true rfl) (Nat.zero_le _) (Nat.zero_le _) (fun r23 V23 p23 => ?_)
          obtain ⟨rfl, q2, k2⟩ := p23
          refine k_ifb_ne 26 31 29 C dX4_readText_26 (by decide) rfl (fun h26 => ?_) (fun h26 => ?_)
          · have zg : rTxt cs zn P = rFin cs zn (rCt cs zn w2 (k + 1) (rPt cs zn (k + 1) q (rAt A (rat A + 1))).1) := by rw [hg, zc, rLp_t h26]
            have zk2 := rPt_lt (by omega) h26
            have zm : w2 < zf := by omega
            have zkw : k + 1 + w2 = 20 := by omega
            refine k_iinc 31 34 C [(1, _), (2, _), (3, _), (0, _)] (nI (k + 1 + 1)) dX4_readText_31 rfl 2 rfl (nI_1 (k + 1)) (by decide) rfl ?_
            refine k_aload_n 34 35 C dX4_readText_34 rfl 3 rfl ?_
            refine k_callVI 35 38 C [] [] dX4_readText_35 rfl (ct_X4_here hM q2) mi_X4_here ml_X4_203 im_X4_here se_X4_here ci_X4 (IsMdl.o ‹_›) rfl rfl ⟨Nat.le_of_ble_eq_true rfl, Nat.le_of_ble_eq_true rfl⟩ (Nat.le_of_ble_eq_true rfl) (Nat.zero_le _) (Nat.zero_le _) (fun r35 V35 p35 => ?_)
            obtain ⟨rfl, rfl⟩ := And.intro p35.1.symm p35.2
            refine k_bipush 38 40 C dX4_readText_38 rfl (v := 45) rfl ?_
            refine k_icmp_ne 40 47 43 C dX4_readText_40 (by decide) rfl (fun h40 => ?_) (fun h40 => ?_)
            · have zq5 : (if hereM cs zn (rat (rPt cs zn (k + 1) q (rAt A (rat A + 1))).1) = 45 then (1 : Int32) else 0) = 0 := if_neg h40
              refine k_iconst 47 48 C dX4_readText_47 rfl (v := 0) rfl ?_
              refine k_istore_n 48 49 C [(3, _), (1, _), (2, _), (0, _)] dX4_readText_48 rfl (by decide) rfl ?_
              refine k_perm [0, 1, 3] (L' := [(3, _), (1, _), (0, _)]) rfl ?_
              first
                | exact ih w2 zm _ (k + 1) w2 1 _ rfl zkw zk2 q2 ((k1.trans y1.2).trans k2) zq5 zg
                | exact ih w2 zm _ (k + 1) w2 0 _ rfl zkw zk2 q2 ((k1.trans y1.2).trans k2) zq5 zg
            · have zq5 : (if hereM cs zn (rat (rPt cs zn (k + 1) q (rAt A (rat A + 1))).1) = 45 then (1 : Int32) else 0) = 1 := if_pos h40
              refine k_iconst 43 44 C dX4_readText_43 rfl (v := 1) rfl ?_
              refine k_goto 44 48 C dX4_readText_44 (by decide) ?_
              refine k_istore_n 48 49 C [(3, _), (1, _), (2, _), (0, _)] dX4_readText_48 rfl (by decide) rfl ?_
              refine k_perm [0, 1, 3] (L' := [(3, _), (1, _), (0, _)]) rfl ?_
              first
                | exact ih w2 zm _ (k + 1) w2 1 _ rfl zkw zk2 q2 ((k1.trans y1.2).trans k2) zq5 zg
                | exact ih w2 zm _ (k + 1) w2 0 _ rfl zkw zk2 q2 ((k1.trans y1.2).trans k2) zq5 zg
          · have zT : rTxt cs zn P = ((rPt cs zn (k + 1) q (rAt A (rat A + 1))).1, none) := by rw [hg, zc, rLp_f h26]; rfl
            rw [zT]
            have zK := (k1.trans y1.2).trans k2
            refine k_iconst 29 30 C dX4_readText_29 rfl (v := (-1)) rfl ?_
            refine k_iret 30 C dX4_readText_30 rfl ?_
            exact ⟨rfl, q2, zK⟩
    · refine k_aload_n 58 59 C dX4_readText_58 rfl 2 rfl ?_
      refine k_callVI 59 62 C [] [] dX4_readText_59 rfl (ct_X4_here hM q1) mi_X4_here ml_X4_203 im_X4_here se_X4_here ci_X4 (IsMdl.o ‹_›) rfl rfl ⟨Nat.le_of_ble_eq_true rfl, Nat.le_of_ble_eq_true rfl⟩ (Nat.le_of_ble_eq_true rfl) (Nat.zero_le _) (Nat.zero_le _) (fun r59 V59 p59 => ?_)
      obtain ⟨rfl, rfl⟩ := And.intro p59.1.symm p59.2
      refine k_bipush 62 64 C dX4_readText_62 rfl (v := 32) rfl ?_
      refine k_icmp_ne 64 71 67 C dX4_readText_64 (by decide) rfl (fun h64 => ?_) (fun h64 => ?_)
      · have zc : rCt cs zn w k A = (A, some (k + 1)) := by unfold rCt; rw [if_neg (fun zz => by rcases zz with zz | zz; exact h55 zz; exact h64 zz)]
        refine k_iconst 71 72 C dX4_readText_71 rfl (v := 0) rfl ?_
        refine k_istore_n 72 73 C [(2, _), (3, _), (1, _), (0, _)] dX4_readText_72 rfl (by decide) rfl ?_
        refine k_aload_n 73 74 C dX4_readText_73 rfl 3 rfl ?_
        refine k_dup 74 75 C dX4_readText_74 rfl rfl ?_
        refine k_get 75 78 C dX4_readText_75 rfl ci_X4 8 fl_X4_194 (IsMdl.o ‹_›) (by decide) rfl ?_
        refine k_rwI (y := nI (rat A)) q1.a ?_
        refine k_iload_n 78 79 C dX4_readText_78 rfl 0 rfl ?_
        refine k_if_eq 79 86 82 C dX4_readText_79 (by decide) rfl (fun h79 => ?_) (fun h79 => ?_)
        · refine k_iconst 86 87 C dX4_readText_86 rfl (v := 0) rfl ?_
          refine k_iadd 87 88 C dX4_readText_87 rfl  ?_
          first
            | refine k_rwI (y := nI (rat A + 1)) (nI_1 (rat A)) ?_
            | refine k_rwI (y := nI (rat A)) (nI_add (rat A) 0) ?_
          refine k_put 88 91 C dX4_readText_88 rfl ci_X4 8 fl_X4_194 (IsMdl.o ‹_›) (by decide) rfl rfl rfl wI_off (ps_4_8 _ _ _ _) ?_
          first
            | have y1 := q1.wA (a := rat A + 1) zlt
            | have y1 : RQ _ M zn cs A ∧ KtR V1 _ M := q1.wA (a := rat A) q1.le
          refine k_goto 91 16 C dX4_readText_91 (by decide) ?_
          refine k_iload_n 16 17 C dX4_readText_16 rfl 0 rfl ?_
          refine k_if_eq 17 94 20 C dX4_readText_17 (by decide) rfl (fun h17 => ?_) (fun h17 => ?_)
          · refine k_aload_n 94 95 C dX4_readText_94 rfl 3 rfl ?_
            refine k_callVI 95 98 C [] [] dX4_readText_95 rfl (ct_X4_here hM y1.1) mi_X4_here ml_X4_203 im_X4_here se_X4_here ci_X4 (IsMdl.o ‹_›) rfl rfl ⟨Nat.le_of_ble_eq_true rfl, Nat.le_of_ble_eq_true rfl⟩ (Nat.le_of_ble_eq_true rfl) (Nat.zero_le _) (Nat.zero_le _) (fun r95 V95 p95 => ?_)
            obtain ⟨rfl, rfl⟩ := And.intro p95.1.symm p95.2
            refine k_bipush 98 100 C dX4_readText_98 rfl (v := 46) rfl ?_
            refine k_icmp_ne 100 107 103 C dX4_readText_100 (by decide) rfl (fun h100 => ?_) (fun h100 => ?_)
            · have zT : rTxt cs zn P = (rFH A zn, none) := by rw [hg, zc]; exact if_neg h100
              refine k_iconst 107 108 C dX4_readText_107 rfl (v := 0) rfl ?_
              refine k_istore 108 110 C [(4, _), (2, _), (3, _), (1, _), (0, _)] dX4_readText_108 rfl (by decide) rfl ?_
              refine k_aload_n 110 111 C dX4_readText_110 rfl 4 rfl ?_
              refine k_dup 111 112 C dX4_readText_111 rfl rfl ?_
              refine k_get 112 115 C dX4_readText_112 rfl ci_X4 8 fl_X4_194 (IsMdl.o ‹_›) (by decide) rfl ?_
              refine k_rwI (y := nI (rat A)) y1.1.a ?_
              refine k_iload 115 117 C dX4_readText_115 rfl 0 rfl ?_
              refine k_if_eq 117 124 120 C dX4_readText_117 (by decide) rfl (fun h117 => ?_) (fun h117 => ?_)
              · refine k_iconst 124 125 C dX4_readText_124 rfl (v := 0) rfl ?_
                refine k_iadd 125 126 C dX4_readText_125 rfl  ?_
                first
                  | refine k_rwI (y := nI (rat A + 1)) (nI_1 (rat A)) ?_
                  | refine k_rwI (y := nI (rat A)) (nI_add (rat A) 0) ?_
                refine k_put 126 129 C dX4_readText_126 rfl ci_X4 8 fl_X4_194 (IsMdl.o ‹_›) (by decide) rfl rfl rfl wI_off (ps_4_8 _ _ _ _) ?_
                first
                  | have y9 := y1.1.wA (a := rat A + 1) zl9
                  | have y9 : RQ _ M zn cs A ∧ KtR _ _ M := y1.1.wA (a := rat A) y1.1.le
                refine k_iload 129 131 C dX4_readText_129 rfl 0 rfl ?_
                refine k_if_eq 131 145 134 C dX4_readText_131 (by decide) rfl (fun h131 => ?_) (fun h131 => ?_)
                · refine k_aload_n 145 146 C dX4_readText_145 rfl 4 rfl ?_
                  refine k_callVI 146 149 C [] [] dX4_readText_146 rfl (ct_X4_isFault hM y9.1) mi_X4_isFault ml_X4_206 im_X4_isFault se_X4_isFault ci_X4 (IsMdl.o ‹_›) rfl rfl ⟨Nat.le_of_ble_eq_true rfl, Nat.le_of_ble_eq_true rfl⟩ (Nat.le_of_ble_eq_true rfl) (Nat.zero_le _) (Nat.zero_le _) (fun r146 V146 p146 => ?_)
                  obtain ⟨rfl, q6, k6⟩ := p146
                  refine k_if_eq 149 156 152 C dX4_readText_149 (by decide) rfl (fun h149 => ?_) (fun h149 => ?_)
                  · refine k_iconst 156 157 C dX4_readText_156 rfl (v := 0) rfl ?_
                    refine k_istore 157 159 C [(5, _), (4, _), (2, _), (3, _), (1, _), (0, _)] dX4_readText_157 rfl (by decide) rfl ?_
                    refine k_iload 159 161 C dX4_readText_159 rfl 0 rfl ?_
                    refine k_if_eq 161 168 164 C dX4_readText_161 (by decide) rfl (fun h161 => ?_) (fun h161 => ?_)
                    · refine k_iconst 168 169 C dX4_readText_168 rfl (v := (-1)) rfl ?_
                      refine k_iret 169 C dX4_readText_169 rfl ?_
                      rw [zT]
                      first
                        | exact ⟨rfl, q6, ((k1.trans y1.2).trans y9.2).trans k6⟩
                        | exact ⟨rfl, y9.1, (k1.trans y1.2).trans y9.2⟩
                    · exact absurd h161 (by decide)
                  · exact absurd h149 (by decide)
                · exact absurd h131 (by decide)
              · exact absurd h117 (by decide)
            · have zl9 : rat A < zn := hereM_lt h100 (by decide)
              refine k_iconst 103 104 C dX4_readText_103 rfl (v := 1) rfl ?_
              refine k_goto 104 108 C dX4_readText_104 (by decide) ?_
              refine k_istore 108 110 C [(4, _), (2, _), (3, _), (1, _), (0, _)] dX4_readText_108 rfl (by decide) rfl ?_
              refine k_aload_n 110 111 C dX4_readText_110 rfl 4 rfl ?_
              refine k_dup 111 112 C dX4_readText_111 rfl rfl ?_
              refine k_get 112 115 C dX4_readText_112 rfl ci_X4 8 fl_X4_194 (IsMdl.o ‹_›) (by decide) rfl ?_
              refine k_rwI (y := nI (rat A)) y1.1.a ?_
              refine k_iload 115 117 C dX4_readText_115 rfl 0 rfl ?_
              refine k_if_eq 117 124 120 C dX4_readText_117 (by decide) rfl (fun h117 => ?_) (fun h117 => ?_)
              · exact absurd h117 (by decide)
              · refine k_iconst 120 121 C dX4_readText_120 rfl (v := 1) rfl ?_
                refine k_goto 121 125 C dX4_readText_121 (by decide) ?_
                refine k_iadd 125 126 C dX4_readText_125 rfl  ?_
                first
                  | refine k_rwI (y := nI (rat A + 1)) (nI_1 (rat A)) ?_
                  | refine k_rwI (y := nI (rat A)) (nI_add (rat A) 0) ?_
                refine k_put 126 129 C dX4_readText_126 rfl ci_X4 8 fl_X4_194 (IsMdl.o ‹_›) (by decide) rfl rfl rfl wI_off (ps_4_8 _ _ _ _) ?_
                first
                  | have y9 := y1.1.wA (a := rat A + 1) zl9
                  | have y9 : RQ _ M zn cs A ∧ KtR _ _ M := y1.1.wA (a := rat A) y1.1.le
                refine k_iload 129 131 C dX4_readText_129 rfl 0 rfl ?_
                refine k_if_eq 131 145 134 C dX4_readText_131 (by decide) rfl (fun h131 => ?_) (fun h131 => ?_)
                · exact absurd h131 (by decide)
                · refine k_aload_n 134 135 C dX4_readText_134 rfl 4 rfl ?_
                  refine k_get 135 138 C dX4_readText_135 rfl ci_X4 8 fl_X4_194 (IsMdl.o ‹_›) (by decide) rfl ?_
                  refine k_rwI (y := nI (rat A + 1)) y9.1.a ?_
                  refine k_aload_n 138 139 C dX4_readText_138 rfl 4 rfl ?_
                  refine k_get 139 142 C dX4_readText_139 rfl ci_X4 5 fl_X4_79 (IsMdl.o ‹_›) (by decide) rfl ?_
                  refine k_rwI (y := nI zn) y9.1.t.1 ?_
                  have z100 := q1.z
                  refine k_icmp_eq 142 152 145 C dX4_readText_142 (by decide) rfl (fun h142 => ?_) (fun h142 => ?_)
                  · have z9 : rat A + 1 = zn := (nI_eq (by omega) (by omega)).mp h142
                    have zT : rTxt cs zn P = (rAt A (rat A + 1), some (k + 1)) := by
                      rw [hg, zc]
                      show (if hereM cs zn (rat A) = 46 then _ else _) = _
                      rw [if_pos h100, if_pos z9]
                    refine k_iconst 152 153 C dX4_readText_152 rfl (v := 1) rfl ?_
                    refine k_goto 153 157 C dX4_readText_153 (by decide) ?_
                    refine k_istore 157 159 C [(5, _), (4, _), (2, _), (3, _), (1, _), (0, _)] dX4_readText_157 rfl (by decide) rfl ?_
                    refine k_iload 159 161 C dX4_readText_159 rfl 0 rfl ?_
                    refine k_if_eq 161 168 164 C dX4_readText_161 (by decide) rfl (fun h161 => ?_) (fun h161 => ?_)
                    · exact absurd h161 (by decide)
                    · refine k_iload_n 164 165 C dX4_readText_164 rfl 4 rfl ?_
                      refine k_goto 165 169 C dX4_readText_165 (by decide) ?_
                      refine k_iret 169 C dX4_readText_169 rfl ?_
                      rw [zT]
                      first
                        | exact ⟨rfl, q6, ((k1.trans y1.2).trans y9.2).trans k6⟩
                        | exact ⟨rfl, y9.1, (k1.trans y1.2).trans y9.2⟩
                  · have z9 : ¬ rat A + 1 = zn := fun zz => h142 (by rw [zz])
                    have zT : rTxt cs zn P = (rFH (rAt A (rat A + 1)) zn, none) := by
                      rw [hg, zc]
                      show (if hereM cs zn (rat A) = 46 then _ else _) = _
                      rw [if_pos h100, if_neg z9]
                    refine k_aload_n 145 146 C dX4_readText_145 rfl 4 rfl ?_
                    refine k_callVI 146 149 C [] [] dX4_readText_146 rfl (ct_X4_isFault hM y9.1) mi_X4_isFault ml_X4_206 im_X4_isFault se_X4_isFault ci_X4 (IsMdl.o ‹_›) rfl rfl ⟨Nat.le_of_ble_eq_true rfl, Nat.le_of_ble_eq_true rfl⟩ (Nat.le_of_ble_eq_true rfl) (Nat.zero_le _) (Nat.zero_le _) (fun r146 V146 p146 => ?_)
                    obtain ⟨rfl, q6, k6⟩ := p146
                    refine k_if_eq 149 156 152 C dX4_readText_149 (by decide) rfl (fun h149 => ?_) (fun h149 => ?_)
                    · refine k_iconst 156 157 C dX4_readText_156 rfl (v := 0) rfl ?_
                      refine k_istore 157 159 C [(5, _), (4, _), (2, _), (3, _), (1, _), (0, _)] dX4_readText_157 rfl (by decide) rfl ?_
                      refine k_iload 159 161 C dX4_readText_159 rfl 0 rfl ?_
                      refine k_if_eq 161 168 164 C dX4_readText_161 (by decide) rfl (fun h161 => ?_) (fun h161 => ?_)
                      · refine k_iconst 168 169 C dX4_readText_168 rfl (v := (-1)) rfl ?_
                        refine k_iret 169 C dX4_readText_169 rfl ?_
                        rw [zT]
                        first
                          | exact ⟨rfl, q6, ((k1.trans y1.2).trans y9.2).trans k6⟩
                          | exact ⟨rfl, y9.1, (k1.trans y1.2).trans y9.2⟩
                      · exact absurd h161 (by decide)
                    · exact absurd h149 (by decide)
          · exact absurd h17 (by decide)
        · exact absurd h79 (by decide)
      · have zlt : rat A < zn := hereM_lt h64 (by decide)
        obtain ⟨w2, rfl⟩ : ∃ w2, w = w2 + 1 := ⟨w - 1, by omega⟩
        have zc : rCt cs zn (w2 + 1) k A = rLp cs zn (w2 + 1) (k + 1) q (rAt A (rat A + 1)) := by unfold rCt; rw [if_pos (Or.inr h64), hgq]
        refine k_iconst 67 68 C dX4_readText_67 rfl (v := 1) rfl ?_
        refine k_goto 68 72 C dX4_readText_68 (by decide) ?_
        refine k_istore_n 72 73 C [(2, _), (3, _), (1, _), (0, _)] dX4_readText_72 rfl (by decide) rfl ?_
        refine k_aload_n 73 74 C dX4_readText_73 rfl 3 rfl ?_
        refine k_dup 74 75 C dX4_readText_74 rfl rfl ?_
        refine k_get 75 78 C dX4_readText_75 rfl ci_X4 8 fl_X4_194 (IsMdl.o ‹_›) (by decide) rfl ?_
        refine k_rwI (y := nI (rat A)) q1.a ?_
        refine k_iload_n 78 79 C dX4_readText_78 rfl 0 rfl ?_
        refine k_if_eq 79 86 82 C dX4_readText_79 (by decide) rfl (fun h79 => ?_) (fun h79 => ?_)
        · exact absurd h79 (by decide)
        · refine k_iconst 82 83 C dX4_readText_82 rfl (v := 1) rfl ?_
          refine k_goto 83 87 C dX4_readText_83 (by decide) ?_
          refine k_iadd 87 88 C dX4_readText_87 rfl  ?_
          first
            | refine k_rwI (y := nI (rat A + 1)) (nI_1 (rat A)) ?_
            | refine k_rwI (y := nI (rat A)) (nI_add (rat A) 0) ?_
          refine k_put 88 91 C dX4_readText_88 rfl ci_X4 8 fl_X4_194 (IsMdl.o ‹_›) (by decide) rfl rfl rfl wI_off (ps_4_8 _ _ _ _) ?_
          first
            | have y1 := q1.wA (a := rat A + 1) zlt
            | have y1 : RQ _ M zn cs A ∧ KtR V1 _ M := q1.wA (a := rat A) q1.le
          refine k_goto 91 16 C dX4_readText_91 (by decide) ?_
          refine k_iload_n 16 17 C dX4_readText_16 rfl 0 rfl ?_
          refine k_if_eq 17 94 20 C dX4_readText_17 (by decide) rfl (fun h17 => ?_) (fun h17 => ?_)
          · exact absurd h17 (by decide)
          · refine k_aload_n 20 21 C dX4_readText_20 rfl 3 rfl ?_
            refine k_iload_n 21 22 C dX4_readText_21 rfl 2 rfl ?_
            refine k_iload_n 22 23 C dX4_readText_22 rfl 1 rfl ?_
            refine k_callVI 23 26 C [_, _] [] dX4_readText_23 rfl (ct_X4_readPoint (k := k + 1) (q := q) hM y1.1 (by omega)) mi_X4_readPoint ml_X4_212 im_X4_readPoint se_X4_readPoint ci_X4 (IsMdl.o ‹_›) rfl rfl ⟨Nat.le_of_ble_eq_true rfl, Nat.le_of_ble_eq_true rfl⟩ (Nat.le_of_ble_eq_true rfl) (Nat.zero_le _) (Nat.zero_le _) (fun r23 V23 p23 => ?_)
            obtain ⟨rfl, q2, k2⟩ := p23
            refine k_ifb_ne 26 31 29 C dX4_readText_26 (by decide) rfl (fun h26 => ?_) (fun h26 => ?_)
            · have zg : rTxt cs zn P = rFin cs zn (rCt cs zn w2 (k + 1) (rPt cs zn (k + 1) q (rAt A (rat A + 1))).1) := by rw [hg, zc, rLp_t h26]
              have zk2 := rPt_lt (by omega) h26
              have zm : w2 < zf := by omega
              have zkw : k + 1 + w2 = 20 := by omega
              refine k_iinc 31 34 C [(1, _), (2, _), (3, _), (0, _)] (nI (k + 1 + 1)) dX4_readText_31 rfl 2 rfl (nI_1 (k + 1)) (by decide) rfl ?_
              refine k_aload_n 34 35 C dX4_readText_34 rfl 3 rfl ?_
              refine k_callVI 35 38 C [] [] dX4_readText_35 rfl (ct_X4_here hM q2) mi_X4_here ml_X4_203 im_X4_here se_X4_here ci_X4 (IsMdl.o ‹_›) rfl rfl ⟨Nat.le_of_ble_eq_true rfl, Nat.le_of_ble_eq_true rfl⟩ (Nat.le_of_ble_eq_true rfl) (Nat.zero_le _) (Nat.zero_le _) (fun r35 V35 p35 => ?_)
              obtain ⟨rfl, rfl⟩ := And.intro p35.1.symm p35.2
              refine k_bipush 38 40 C dX4_readText_38 rfl (v := 45) rfl ?_
              refine k_icmp_ne 40 47 43 C dX4_readText_40 (by decide) rfl (fun h40 => ?_) (fun h40 => ?_)
              · have zq5 : (if hereM cs zn (rat (rPt cs zn (k + 1) q (rAt A (rat A + 1))).1) = 45 then (1 : Int32) else 0) = 0 := if_neg h40
                refine k_iconst 47 48 C dX4_readText_47 rfl (v := 0) rfl ?_
                refine k_istore_n 48 49 C [(3, _), (1, _), (2, _), (0, _)] dX4_readText_48 rfl (by decide) rfl ?_
                refine k_perm [0, 1, 3] (L' := [(3, _), (1, _), (0, _)]) rfl ?_
                first
                  | exact ih w2 zm _ (k + 1) w2 1 _ rfl zkw zk2 q2 ((k1.trans y1.2).trans k2) zq5 zg
                  | exact ih w2 zm _ (k + 1) w2 0 _ rfl zkw zk2 q2 ((k1.trans y1.2).trans k2) zq5 zg
              · have zq5 : (if hereM cs zn (rat (rPt cs zn (k + 1) q (rAt A (rat A + 1))).1) = 45 then (1 : Int32) else 0) = 1 := if_pos h40
                refine k_iconst 43 44 C dX4_readText_43 rfl (v := 1) rfl ?_
                refine k_goto 44 48 C dX4_readText_44 (by decide) ?_
                refine k_istore_n 48 49 C [(3, _), (1, _), (2, _), (0, _)] dX4_readText_48 rfl (by decide) rfl ?_
                refine k_perm [0, 1, 3] (L' := [(3, _), (1, _), (0, _)]) rfl ?_
                first
                  | exact ih w2 zm _ (k + 1) w2 1 _ rfl zkw zk2 q2 ((k1.trans y1.2).trans k2) zq5 zg
                  | exact ih w2 zm _ (k + 1) w2 0 _ rfl zkw zk2 q2 ((k1.trans y1.2).trans k2) zq5 zg
            · have zT : rTxt cs zn P = ((rPt cs zn (k + 1) q (rAt A (rat A + 1))).1, none) := by rw [hg, zc, rLp_f h26]; rfl
              rw [zT]
              have zK := (k1.trans y1.2).trans k2
              refine k_iconst 29 30 C dX4_readText_29 rfl (v := (-1)) rfl ?_
              refine k_iret 30 C dX4_readText_30 rfl ?_
              exact ⟨rfl, q2, zK⟩
  refine k_aload_n 0 1 C dX4_readText_0 rfl 0 rfl ?_
  refine k_iconst 1 2 C dX4_readText_1 rfl (v := 0) rfl ?_
  refine k_put 2 5 C dX4_readText_2 rfl ci_X4 8 fl_X4_194 (IsMdl.o ‹_›) (by decide) rfl rfl rfl wI_off (ps_4_8 _ _ _ _) ?_
  have y1 := hq.wA
  refine k_aload_n 5 6 C dX4_readText_5 rfl 0 rfl ?_
  refine k_iconst 6 7 C dX4_readText_6 rfl (v := 0) rfl ?_
  refine k_put 7 10 C dX4_readText_7 rfl ci_X4 9 fl_X4_197 (IsMdl.o ‹_›) (by decide) rfl rfl rfl wI_off (ps_4_9 _ _ _ _) ?_
  have y2 : RQ _ M zn cs (rFr (rAt P 0) 0) ∧ KtR V _ M := RK.t y1.2 y1.1.wF
  refine k_iconst 10 11 C dX4_readText_10 rfl (v := 0) rfl ?_
  refine k_istore_n 11 12 C [(1, _), (0, _)] dX4_readText_11 rfl (by decide) rfl ?_
  refine k_iconst 12 13 C dX4_readText_12 rfl (v := 1) rfl ?_
  refine k_istore_n 13 14 C [(2, _), (1, _), (0, _)] dX4_readText_13 rfl (by decide) rfl ?_
  refine k_iconst 14 15 C dX4_readText_14 rfl (v := 0) rfl ?_
  refine k_istore_n 15 16 C [(3, _), (2, _), (1, _), (0, _)] dX4_readText_15 rfl (by decide) rfl ?_
  refine k_iload_n 16 17 C dX4_readText_16 rfl 1 rfl ?_
  refine k_if_eq 17 94 20 C dX4_readText_17 (by decide) rfl (fun h17 => ?_) (fun h17 => ?_)
  · exact absurd h17 (by decide)
  · refine k_aload_n 20 21 C dX4_readText_20 rfl 3 rfl ?_
    refine k_iload_n 21 22 C dX4_readText_21 rfl 2 rfl ?_
    refine k_iload_n 22 23 C dX4_readText_22 rfl 0 rfl ?_
    refine k_callVI 23 26 C [_, _] [] dX4_readText_23 rfl (ct_X4_readPoint (k := 0) (q := 0) hM y2.1 (by decide)) mi_X4_readPoint ml_X4_212 im_X4_readPoint se_X4_readPoint ci_X4 (IsMdl.o ‹_›) rfl rfl ⟨Nat.le_of_ble_eq_true rfl, Nat.le_of_ble_eq_true rfl⟩ (Nat.le_of_ble_eq_true rfl) (Nat.zero_le _) (Nat.zero_le _) (fun r23 V23 p23 => ?_)
    obtain ⟨rfl, q2, k2⟩ := p23
    refine k_ifb_ne 26 31 29 C dX4_readText_26 (by decide) rfl (fun h26 => ?_) (fun h26 => ?_)
    · have zg : rTxt cs zn P = rFin cs zn (rCt cs zn 20 0 (rPt cs zn 0 0 (rFr (rAt P 0) 0)).1) := by unfold rTxt; rw [rLp_t h26]
      refine k_iinc 31 34 C [(1, _), (3, _), (2, _), (0, _)] (nI (1)) dX4_readText_31 rfl 2 rfl (nI_1 (0)) (by decide) rfl ?_
      refine k_aload_n 34 35 C dX4_readText_34 rfl 3 rfl ?_
      refine k_callVI 35 38 C [] [] dX4_readText_35 rfl (ct_X4_here hM q2) mi_X4_here ml_X4_203 im_X4_here se_X4_here ci_X4 (IsMdl.o ‹_›) rfl rfl ⟨Nat.le_of_ble_eq_true rfl, Nat.le_of_ble_eq_true rfl⟩ (Nat.le_of_ble_eq_true rfl) (Nat.zero_le _) (Nat.zero_le _) (fun r35 V35 p35 => ?_)
      obtain ⟨rfl, rfl⟩ := And.intro p35.1.symm p35.2
      refine k_bipush 38 40 C dX4_readText_38 rfl (v := 45) rfl ?_
      refine k_icmp_ne 40 47 43 C dX4_readText_40 (by decide) rfl (fun h40 => ?_) (fun h40 => ?_)
      · have zq5 : (if hereM cs zn (rat (rPt cs zn 0 0 (rFr (rAt P 0) 0)).1) = 45 then (1 : Int32) else 0) = 0 := if_neg h40
        refine k_iconst 47 48 C dX4_readText_47 rfl (v := 0) rfl ?_
        refine k_istore_n 48 49 C [(3, _), (1, _), (2, _), (0, _)] dX4_readText_48 rfl (by decide) rfl ?_
        refine k_perm [0, 1, 3] (L' := [(3, _), (1, _), (0, _)]) rfl ?_
        first
          | exact loop49 _ _ 0 20 1 _ rfl rfl (by decide) q2 (y2.2.trans k2) zq5 zg
          | exact loop49 _ _ 0 20 0 _ rfl rfl (by decide) q2 (y2.2.trans k2) zq5 zg
      · have zq5 : (if hereM cs zn (rat (rPt cs zn 0 0 (rFr (rAt P 0) 0)).1) = 45 then (1 : Int32) else 0) = 1 := if_pos h40
        refine k_iconst 43 44 C dX4_readText_43 rfl (v := 1) rfl ?_
        refine k_goto 44 48 C dX4_readText_44 (by decide) ?_
        refine k_istore_n 48 49 C [(3, _), (1, _), (2, _), (0, _)] dX4_readText_48 rfl (by decide) rfl ?_
        refine k_perm [0, 1, 3] (L' := [(3, _), (1, _), (0, _)]) rfl ?_
        first
          | exact loop49 _ _ 0 20 1 _ rfl rfl (by decide) q2 (y2.2.trans k2) zq5 zg
          | exact loop49 _ _ 0 20 0 _ rfl rfl (by decide) q2 (y2.2.trans k2) zq5 zg
    · have zT : rTxt cs zn P = ((rPt cs zn 0 0 (rFr (rAt P 0) 0)).1, none) := by unfold rTxt; rw [rLp_f h26]; rfl
      rw [zT]
      have zK := y2.2.trans k2
      refine k_iconst 29 30 C dX4_readText_29 rfl (v := (-1)) rfl ?_
      refine k_iret 30 C dX4_readText_30 rfl ?_
      exact ⟨rfl, q2, zK⟩
def mFau (cs : Nat → Int32) (zn : Nat) (P : Rt) (q : Int32) : Int32 × Rt := if okR q 0 1 then (if (rTxt cs zn P).2 = none then (if q = 0 then nI (rat (rTxt cs zn P).1) else rfr (rTxt cs zn P).1) else -2000000004, (rTxt cs zn P).1) else (-2000000001, P)
def adL (g : Nat → Int64) (n : Nat) (rd : Nat → Int32) : Nat → Nat → Int64
  | 0 => g
  | k + 1 => adF (adL g n rd k) n k (rd (3 * k)) (rd (3 * k + 1)) (decide (rd (3 * k + 2) = 1 ∧ 0 < k))
theorem bgF_hd {f : Nat → Int64} {n : Nat} : bgF f n (hdC n 0) = 0 := by
  unfold bgF
  rw [va_up_ne _ _ (by unfold hdC; omega), va_up_ne _ _ (by unfold hdC; omega), va_up_ne _ _ (by unfold hdC; omega), va_up_ne _ _ (by unfold hdC; omega), va_up_ne _ _ (by unfold hdC; omega), va_up_ne _ _ (by unfold hdC; omega), va_up_ne _ _ (by unfold hdC; omega)]
  unfold bgL hdC
  rw [if_pos (by omega)]
theorem adL_n {f : Nat → Int64} {n : Nat} {rd : Nat → Int32} (hn : n ≤ 5) : ∀ k, k ≤ 20 → adL (bgF f n) n rd k (hdC n 0) = lN k
  | 0, _ => bgF_hd
  | k + 1, h => adF_n (adL_n hn k (by omega)) hn (by omega)
def mRd (f : Nat → Int64) (n : Nat) (cs : Nat → Int32) (zn : Nat) (P : Rt) : Int32 × Option (Nat → Int64) := match (rTxt cs zn P).2 with
  | none => (-2000000002, none)
  | some z => if n = 6 then (-2000000003, none) else (nI n, some (adL (bgF f n) n (rrd (rTxt cs zn P).1) z))
/-- the points read can be added -/
def RdOK (f : Nat → Int64) (n : Nat) (rd : Nat → Int32) (z : Nat) : Prop := ∀ k, k < z → 1 ≤ k → LnOK (adP (adL (bgF f n) n rd k) n k (rd (3 * k)) (rd (3 * k + 1)) 1) n k
set_option maxHeartbeats 4000000 in
set_option maxRecDepth 100000 in
theorem ct_X4_fault {E : gE} {T : gT} {l : Launch} {V : gV} {q : Int32} {M zn : Nat} {cs : Nat → Int32} {P : Rt} (hM : IsMdl T M) (hq : RQ0 V M zn cs P) : CtI E T l yX4_fault (gw yX4_fault cX4_fault 2 (some .int)) { frames := 4, cells := 0, slots := 0, locals := 91 } [.ref M, .int q] V (fun (r : Int32) (V' : gV) => r = (mFau cs zn P q).1 ∧ RQ0 V' M zn cs (mFau cs zn P q).2 ∧ KtR V V' M) := by
  refine ctI_of (L := [(0, .ref M), (1, .int q)]) (by decide) rfl (Nat.le_of_ble_eq_true rfl) rfl (fun p e s m args below meth c C => ?_)
  refine k_iload_n 0 1 C dX4_fault_0 rfl 1 rfl ?_
  refine k_iconst 1 2 C dX4_fault_1 rfl (v := 0) rfl ?_
  refine k_iconst 2 3 C dX4_fault_2 rfl (v := 1) rfl ?_
  refine k_callSI 3 6 C [_, _, _] [] dX4_fault_3 rfl ct_X4_in mi_X4_in ml_X4_57 st_X4_in rfl rfl ⟨Nat.le_of_ble_eq_true rfl, Nat.le_of_ble_eq_true rfl⟩ (Nat.le_of_ble_eq_true rfl) (Nat.zero_le _) (Nat.zero_le _) (fun r3 V3 p3 => ?_)
  obtain ⟨rfl, rfl⟩ := And.intro p3.1.symm p3.2
  refine k_ifb_ne 6 12 9 C dX4_fault_6 (by decide) rfl (fun h6 => ?_) (fun h6 => ?_)
  · refine k_aload_n 12 13 C dX4_fault_12 rfl 0 rfl ?_
    refine k_callVI 13 16 C [] [] dX4_fault_13 rfl (ct_X4_readText hM hq) mi_X4_readText ml_X4_215 im_X4_readText se_X4_readText ci_X4 (IsMdl.o ‹_›) rfl rfl ⟨Nat.le_of_ble_eq_true rfl, Nat.le_of_ble_eq_true rfl⟩ (Nat.le_of_ble_eq_true rfl) (Nat.zero_le _) (Nat.zero_le _) (fun r13 V13 p13 => ?_)
    obtain ⟨rfl, q2, k2⟩ := p13
    refine k_iconst 16 17 C dX4_fault_16 rfl (v := (-1)) rfl ?_
    refine k_icmp_eq 17 25 20 C dX4_fault_17 (by decide) rfl (fun h17 => ?_) (fun h17 => ?_)
    · have z17 := txN_n.mp h17
      refine k_iload_n 25 26 C dX4_fault_25 rfl 1 rfl ?_
      refine k_if_ne 26 36 29 C dX4_fault_26 (by decide) rfl (fun h26 => ?_) (fun h26 => ?_)
      · have ee : mFau cs zn P q = (rfr (rTxt cs zn P).1, (rTxt cs zn P).1) := by unfold mFau; rw [if_pos h6, if_pos z17, if_neg h26]
        refine k_aload_n 36 37 C dX4_fault_36 rfl 0 rfl ?_
        refine k_get 37 40 C dX4_fault_37 rfl ci_X4 9 fl_X4_197 (IsMdl.o ‹_›) (by decide) rfl ?_
        refine k_rwI (y := rfr (rTxt cs zn P).1) q2.fr ?_
        refine k_iret 40 C dX4_fault_40 rfl ?_
        rw [ee]
        exact ⟨rfl, q2.rw, k2⟩
      · have ee : mFau cs zn P q = (nI (rat (rTxt cs zn P).1), (rTxt cs zn P).1) := by unfold mFau; rw [if_pos h6, if_pos z17, if_pos h26]
        refine k_aload_n 29 30 C dX4_fault_29 rfl 0 rfl ?_
        refine k_get 30 33 C dX4_fault_30 rfl ci_X4 8 fl_X4_194 (IsMdl.o ‹_›) (by decide) rfl ?_
        refine k_rwI (y := nI (rat (rTxt cs zn P).1)) q2.a ?_
        refine k_goto 33 40 C dX4_fault_33 (by decide) ?_
        refine k_iret 40 C dX4_fault_40 rfl ?_
        rw [ee]
        exact ⟨rfl, q2.rw, k2⟩
    · have ee : mFau cs zn P q = (-2000000004, (rTxt cs zn P).1) := by unfold mFau; rw [if_pos h6, if_neg (fun zz => h17 (txN_n.mpr zz))]
      refine k_ldc 20 22 C dX4_fault_20 rfl kc_X4_160 ?_
      refine k_goto 22 40 C dX4_fault_22 (by decide) ?_
      refine k_iret 40 C dX4_fault_40 rfl ?_
      rw [ee]
      exact ⟨rfl, q2.rw, k2⟩
  · have ee : mFau cs zn P q = (-2000000001, P) := by unfold mFau; rw [if_neg h6]
    refine k_ldc 9 11 C dX4_fault_9 rfl kc_X4_61 ?_
    refine k_iret 11 C dX4_fault_11 rfl ?_
    rw [ee]
    exact ⟨rfl, hq, KtR.rf⟩
set_option maxHeartbeats 4000000 in
set_option maxRecDepth 100000 in
theorem ct_X4_read {E : gE} {T : gT} {l : Launch} {V : gV} {n h : Nat} {f : Nat → Int64} {H : Nat → Nat → Int64} {M zn : Nat} {cs : Nat → Int32} {P : Rt} (hM : IsMdl T M) (hq : RQ0 V M zn cs P) (hf : PQ V M f) (hh : HQ V M h H) (h14 : f 14 = lN n) (hn : n ≤ 6) (hL : ∀ z, (rTxt cs zn P).2 = some z → n ≤ 5 → RdOK f n (rrd (rTxt cs zn P).1) z) : CtI E T l yX4_read (gw yX4_read cX4_read 4 (some .int)) { frames := 6, cells := 0, slots := 0, locals := 163 } [.ref M] V (fun (r : Int32) (V' : gV) => r = (mRd f n cs zn P).1 ∧ ∃ V2 : gV, RQ V2 M zn cs (rTxt cs zn P).1 ∧ KtR V V2 M ∧ AfM V2 V' M f h H (mRd f n cs zn P).2) := by
  refine ctI_of (L := [(0, .ref M)]) (by decide) rfl (Nat.le_of_ble_eq_true rfl) rfl (fun p e s m args below meth c C => ?_)
  have loop41 : ∀ (zf : Nat) (V2 V0 V1 : gV) (z k : Nat), z - k = zf → (n ≤ 5) → (z ≤ 20) → (k ≤ z) → (RQ V2 M zn cs (rTxt cs zn P).1) → (KtR V V2 M) → (HQ V0 M (remN h) (keepH f h H)) → (KpM V2 V0 M) → (mRd f n cs zn P = (nI n, some (adL (bgF f n) n (rrd (rTxt cs zn P).1) z))) → (RdOK f n (rrd (rTxt cs zn P).1) z) → (Pg V0 V1 M (adL (bgF f n) n (rrd (rTxt cs zn P).1) k)) → KW E T V1 p l e { frames := 6, cells := 0, slots := 0, locals := 163 } s m args below meth c 4 0 0 (MQ below (va_Qi (fun (r : Int32) (V' : gV) => r = (mRd f n cs zn P).1 ∧ ∃ V2 : gV, RQ V2 M zn cs (rTxt cs zn P).1 ∧ KtR V V2 M ∧ AfM V2 V' M f h H (mRd f n cs zn P).2) (RepS E T) (gA E)) args s 0 0 (gA E)) 41 [(3, .int (nI k)), (2, .int (nI n)), (1, .int (nI z)), (0, .ref M)] [] := by
    intro zf
    induction zf using Nat.strongRecOn with
    | _ zf ih =>
    intro V2 V0 V1 z k zhf n5 z20 hk r2 kr y0 k0 ei hLz g1
    have zrd : ∀ j, j < 60 → V1.1 (M + 5) j = rrd (rTxt cs zn P).1 j := fun j hj => by rw [g1.1, k0.1 (M + 5) (by omega)]; exact r2.rd j hj
    refine k_iload_n 41 42 C dX4_read_41 rfl 0 rfl ?_
    refine k_iload_n 42 43 C dX4_read_42 rfl 2 rfl ?_
    refine k_icmp_ge 43 85 46 C dX4_read_43 (by decide) rfl (fun h43 => ?_) (fun h43 => ?_)
    · have z9 : k = z := by
        have z0 : nI z ≤ nI k := h43
        rw [n1k (by omega) (by omega)] at z0; omega
      refine k_iload_n 85 86 C dX4_read_85 rfl 1 rfl ?_
      refine k_iret 86 C dX4_read_86 rfl ?_
      rw [ei]
      rw [z9] at g1
      exact ⟨rfl, V2, r2, kr, AfM.of y0 k0 g1⟩
    · have z9 : k < z := by
        have z0 : ¬ nI z ≤ nI k := h43
        rw [n1k (by omega) (by omega)] at z0; omega
      refine k_aload_n 46 47 C dX4_read_46 rfl 3 rfl ?_
      refine k_iload_n 47 48 C dX4_read_47 rfl 1 rfl ?_
      refine k_aload_n 48 49 C dX4_read_48 rfl 3 rfl ?_
      refine k_getF 49 52 C dX4_read_49 rfl ci_X4 11 fl_X4_23 (IsMdl.o ‹_›) (by decide) (IsMdl.f11 ‹_›) rfl ?_
      refine k_iconst 52 53 C dX4_read_52 rfl (v := 3) rfl ?_
      refine k_iload_n 53 54 C dX4_read_53 rfl 0 rfl ?_
      refine k_imul 54 55 C dX4_read_54 rfl  ?_
      refine k_rwI (y := nI (3 * k)) (pk_mul (3) (k)) ?_
      refine k_iald 55 56 C dX4_read_55 rfl (IsMdl.a11 ‹_›) (vp_in_nI (show 3 * k < 60 by omega) (by decide)) ?_
      rw [nI_clamp (show 3 * k < 2 ^ 31 by omega)]
      refine k_rwI (y := rrd (rTxt cs zn P).1 (3 * k)) (zrd (3 * k) (by omega)) ?_
      refine k_aload_n 56 57 C dX4_read_56 rfl 3 rfl ?_
      refine k_getF 57 60 C dX4_read_57 rfl ci_X4 11 fl_X4_23 (IsMdl.o ‹_›) (by decide) (IsMdl.f11 ‹_›) rfl ?_
      refine k_iconst 60 61 C dX4_read_60 rfl (v := 3) rfl ?_
      refine k_iload_n 61 62 C dX4_read_61 rfl 0 rfl ?_
      refine k_imul 62 63 C dX4_read_62 rfl  ?_
      refine k_rwI (y := nI (3 * k)) (pk_mul (3) (k)) ?_
      refine k_iconst 63 64 C dX4_read_63 rfl (v := 1) rfl ?_
      refine k_iadd 64 65 C dX4_read_64 rfl  ?_
      refine k_rwI (y := nI ((3 * k) + (1))) (nI_add (3 * k) (1)) ?_
      refine k_iald 65 66 C dX4_read_65 rfl (IsMdl.a11 ‹_›) (vp_in_nI (show 3 * k + 1 < 60 by omega) (by decide)) ?_
      rw [nI_clamp (show 3 * k + 1 < 2 ^ 31 by omega)]
      refine k_rwI (y := rrd (rTxt cs zn P).1 (3 * k + 1)) (zrd (3 * k + 1) (by omega)) ?_
      refine k_aload_n 66 67 C dX4_read_66 rfl 3 rfl ?_
      refine k_getF 67 70 C dX4_read_67 rfl ci_X4 11 fl_X4_23 (IsMdl.o ‹_›) (by decide) (IsMdl.f11 ‹_›) rfl ?_
      refine k_iconst 70 71 C dX4_read_70 rfl (v := 3) rfl ?_
      refine k_iload_n 71 72 C dX4_read_71 rfl 0 rfl ?_
      refine k_imul 72 73 C dX4_read_72 rfl  ?_
      refine k_rwI (y := nI (3 * k)) (pk_mul (3) (k)) ?_
      refine k_iconst 73 74 C dX4_read_73 rfl (v := 2) rfl ?_
      refine k_iadd 74 75 C dX4_read_74 rfl  ?_
      refine k_rwI (y := nI ((3 * k) + (2))) (nI_add (3 * k) (2)) ?_
      refine k_iald 75 76 C dX4_read_75 rfl (IsMdl.a11 ‹_›) (vp_in_nI (show 3 * k + 2 < 60 by omega) (by decide)) ?_
      rw [nI_clamp (show 3 * k + 2 < 2 ^ 31 by omega)]
      refine k_rwI (y := rrd (rTxt cs zn P).1 (3 * k + 2)) (zrd (3 * k + 2) (by omega)) ?_
      refine k_callVV 76 79 C [_, _, _, _] [] dX4_read_76 rfl (ct_X4_adds (d := n) (k := k) n5 (by omega) (adL_n n5 k (by omega)) hM (g1.2.2.2) (fun z1 => hLz k z9 z1)) mi_X4_adds ml_X4_118 im_X4_adds se_X4_adds ci_X4 (IsMdl.o ‹_›) rfl rfl ⟨Nat.le_of_ble_eq_true rfl, Nat.le_of_ble_eq_true rfl⟩ (Nat.le_of_ble_eq_true rfl) (Nat.zero_le _) (Nat.zero_le _) (fun V76 p76 => ?_)
      refine k_iinc 79 82 C [(3, _), (2, _), (1, _), (0, _)] (nI (k + 1)) dX4_read_79 rfl 0 rfl (nI_1 (k)) (by decide) rfl ?_
      refine k_goto 82 41 C dX4_read_82 (by decide) ?_
      exact ih (z - (k + 1)) (by omega) _ _ _ z (k + 1) rfl n5 z20 (by omega) r2 kr y0 k0 ei hLz ((g1).trans p76)
  refine k_aload_n 0 1 C dX4_read_0 rfl 0 rfl ?_
  refine k_callVI 1 4 C [] [] dX4_read_1 rfl (ct_X4_readText hM hq) mi_X4_readText ml_X4_215 im_X4_readText se_X4_readText ci_X4 (IsMdl.o ‹_›) rfl rfl ⟨Nat.le_of_ble_eq_true rfl, Nat.le_of_ble_eq_true rfl⟩ (Nat.le_of_ble_eq_true rfl) (Nat.zero_le _) (Nat.zero_le _) (fun r1 V1 p1 => ?_)
  obtain ⟨rfl, q2, k2⟩ := p1
  have zq : PQ V1 M f := fun j hj => by rw [k2.2.2]; exact hf j hj
  have zh : HQ V1 M h H := ⟨by rw [k2.2.1 3 (by omega)]; exact hh.1, hh.2.1, fun k hk j hj => by rw [k2.2.2]; exact hh.2.2 k hk j hj⟩
  refine k_istore_n 4 5 C [(1, _), (0, _)] dX4_read_4 rfl (by decide) rfl ?_
  refine k_iload_n 5 6 C dX4_read_5 rfl 0 rfl ?_
  refine k_iconst 6 7 C dX4_read_6 rfl (v := (-1)) rfl ?_
  refine k_icmp_ne 7 13 10 C dX4_read_7 (by decide) rfl (fun h7 => ?_) (fun h7 => ?_)
  · obtain ⟨z, ez⟩ : ∃ z, (rTxt cs zn P).2 = some z := by
      cases e0 : (rTxt cs zn P).2 with
      | none => exact absurd (txN_n.mpr e0) h7
      | some z => exact ⟨z, rfl⟩
    have zb := rTxt_b ez
    refine k_aload_n 13 14 C dX4_read_13 rfl 1 rfl ?_
    refine k_getF 14 17 C dX4_read_14 rfl ci_X4 0 fl_X4_7 (IsMdl.o ‹_›) (by decide) (IsMdl.f0 ‹_›) rfl ?_
    refine k_bipush 17 19 C dX4_read_17 rfl (v := 14) rfl ?_
    refine k_laldP 19 20 C dX4_read_19 rfl ‹_› (f := f) (zq) (c0 := 14) (by first | omega | (simp only [hdC, ceC]; omega)) ?_
    refine k_ldc2 20 23 C dX4_read_20 rfl kl_X4_98 ?_
    refine k_lcmp_ne 23 24 30 27 C dX4_read_23 rfl dX4_read_24 (by decide) rfl (fun h24 => ?_) (fun h24 => ?_)
    · have z5 : n ≤ 5 := by
        have z6 : ¬ n = 6 := fun zz => h24 (by rw [h14, zz]; rfl)
        omega
      have ee : mRd f n cs zn P = (nI n, some (adL (bgF f n) n (rrd (rTxt cs zn P).1) z)) := by unfold mRd; rw [ez]; exact if_neg (by omega)
      refine k_aload_n 30 31 C dX4_read_30 rfl 1 rfl ?_
      refine k_callVV 31 34 C [] [] dX4_read_31 rfl (ct_X4_keep hM zq zh) mi_X4_keep ml_X4_62 im_X4_keep se_X4_keep ci_X4 (IsMdl.o ‹_›) rfl rfl ⟨Nat.le_of_ble_eq_true rfl, Nat.le_of_ble_eq_true rfl⟩ (Nat.le_of_ble_eq_true rfl) (Nat.zero_le _) (Nat.zero_le _) (fun V31 p31 => ?_)
      obtain ⟨q31, y31, k31⟩ := p31
      refine k_aload_n 34 35 C dX4_read_34 rfl 1 rfl ?_
      refine k_callVI 35 38 C [] [] dX4_read_35 rfl (ct_X4_begins hM (q31) h14 z5) mi_X4_begins ml_X4_100 im_X4_begins se_X4_begins ci_X4 (IsMdl.o ‹_›) rfl rfl ⟨Nat.le_of_ble_eq_true rfl, Nat.le_of_ble_eq_true rfl⟩ (Nat.le_of_ble_eq_true rfl) (Nat.zero_le _) (Nat.zero_le _) (fun r35 V35 p35 => ?_)
      obtain ⟨zb1, rfl⟩ := p35
      refine k_istore_n 38 39 C [(2, _), (1, _), (0, _)] dX4_read_38 rfl (by decide) rfl ?_
      refine k_iconst 39 40 C dX4_read_39 rfl (v := 0) rfl ?_
      refine k_istore_n 40 41 C [(3, _), (2, _), (1, _), (0, _)] dX4_read_40 rfl (by decide) rfl ?_
      rw [ez]
      exact loop41 _ _ _ _ z 0 rfl z5 zb.2 (Nat.zero_le _) q2 k2 y31 k31 ee (hL z ez z5) (((Pg.rf q31)).trans zb1)
    · obtain rfl : n = 6 := by
        rw [h14] at h24
        exact (lN_eq (by omega) (by decide)).mp (h24 : lN n = lN 6)
      have ee : mRd f 6 cs zn P = (-2000000003, none) := by unfold mRd; rw [ez]; rfl
      refine k_ldc 27 29 C dX4_read_27 rfl kc_X4_84 ?_
      refine k_iret 29 C dX4_read_29 rfl ?_
      rw [ee]
      exact ⟨rfl, V1, q2, k2, AfM.no zq zh⟩
  · have ee : mRd f n cs zn P = (-2000000002, none) := by unfold mRd; rw [txN_n.mp h7]
    refine k_ldc 10 12 C dX4_read_10 rfl kc_X4_117 ?_
    refine k_iret 12 C dX4_read_12 rfl ?_
    rw [ee]
    exact ⟨rfl, V1, q2, k2, AfM.no zq zh⟩
