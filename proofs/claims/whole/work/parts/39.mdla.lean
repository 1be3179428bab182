/-! remove -/
def rmL (f : Nat → Int64) (d w : Nat) (j : Nat) : Int64 := if 15 + 150 * d ≤ j ∧ j < 15 + 150 * d + w then f (j + 150) else f j
theorem rmL_0 {f : Nat → Int64} {d : Nat} : rmL f d 0 = f := by
  funext j; unfold rmL; rw [if_neg (by omega)]
theorem rmL_s {f : Nat → Int64} {d w : Nat} : va_up (rmL f d w) (hdC d 0 + w) (rmL f d w (hdC d 0 + w + 150)) = rmL f d (w + 1) := by
  funext j
  unfold rmL hdC
  by_cases e : j = 15 + 150 * d + 0 + w
  · subst e; rw [va_up_self, if_neg (by omega), if_pos (by omega)]
  · rw [va_up_ne _ _ e]
    by_cases z : 15 + 150 * d ≤ j ∧ j < 15 + 150 * d + w
    · rw [if_pos z, if_pos (by omega)]
    · rw [if_neg z, if_neg (by omega)]
def mrP (f : Nat → Int64) (x : Int64) : Nat → Nat → Int64
  | 0 => f
  | j + 1 => va_up (mrP f x j) (hdC j 1) (mrP f x j (hdC j 1) - (if mrP f x j (hdC j 1) ≤ x then 0 else 1))
theorem mrP_0 {f : Nat → Int64} {x : Int64} : ∀ (j c : Nat), (∀ k, k < j → c ≠ hdC k 1) → mrP f x j c = f c
  | 0, _, _ => rfl
  | j + 1, c, h => by
    show va_up (mrP f x j) (hdC j 1) _ c = _
    rw [va_up_ne _ _ (h j (Nat.lt_succ_self j))]
    exact mrP_0 j c (fun k hk => h k (Nat.lt_succ_of_lt hk))
def rmB (f : Nat → Int64) (n d : Nat) : Nat → Int64 := rmL (va_up f 14 (f 14 - 1)) d (150 * (n - 1 - d))
def rmF (f : Nat → Int64) (n d : Nat) : Nat → Int64 := mrP (rmB f n d) (nI d).toInt64 (n - 1)
def mRem (f : Nat → Int64) (n : Nat) (i : Int32) : Int32 × Option (Nat → Int64) := if ¬ inM n i then (-2000000001, none) else if pcp f i n = true then (-2000000002, none) else (nI (n - 1), some (rmF f n i.toNatClampNeg))
theorem rm_14 {f : Nat → Int64} {n d w : Nat} (h14 : f 14 = lN n) (hn : 0 < n) : rmL (va_up f 14 (f 14 - 1)) d w 14 = lN (n - 1) := by
  unfold rmL
  rw [if_neg (by omega), va_up_self, h14]
  obtain ⟨q, rfl⟩ : ∃ q, n = q + 1 := ⟨n - 1, by omega⟩
  rw [← lN_1 q]
  show lN q + 1 - 1 = lN q
  exact Int64.add_sub_cancel _ _
theorem rm_14b {f : Nat → Int64} {n d j : Nat} {x : Int64} (h14 : f 14 = lN n) (hn : 0 < n) : mrP (rmB f n d) x j 14 = lN (n - 1) := by
  rw [mrP_0 j 14 (fun k _ => by unfold hdC; omega)]
  exact rm_14 h14 hn
set_option maxHeartbeats 4000000 in
set_option maxRecDepth 100000 in
theorem ct_X4_remove {E : gE} {T : gT} {l : Launch} {V : gV} {i : Int32} {M h : Nat} {f : Nat → Int64} {H : Nat → Nat → Int64} (hM : IsMdl T M) (hf : PQ V M f) (hh : HQ V M h H) {n : Nat} {np : Nat → Nat} (hw : PWf f n np) : CtI E T l yX4_remove (gw yX4_remove cX4_remove 3 (some .int)) { frames := 2, cells := 0, slots := 0, locals := 45 } [.ref M, .int i] V (fun (r : Int32) (V' : gV) => r = (mRem f n i).1 ∧ AfM V V' M f h H (mRem f n i).2) := by
  refine ctI_of (L := [(0, .ref M), (1, .int i)]) (by decide) rfl (Nat.le_of_ble_eq_true rfl) rfl (fun p e s m args below meth c C => ?_)
  have z6 := hw.2.1
  have h14 := hw.1
  have loop81 : ∀ (zf : Nat) (V0 V1 : gV) (d j : Nat), n - 1 - j = zf → (d < n) → (HQ V0 M (remN h) (keepH f h H)) → (KpM V V0 M) → (mRem f n i = (nI (n - 1), some (rmF f n d))) → (j ≤ n - 1) → (Pg V0 V1 M (mrP (rmB f n d) (nI d).toInt64 j)) → KW E T V1 p l e { frames := 2, cells := 0, slots := 0, locals := 45 } s m args below meth c 3 0 0 (MQ below (va_Qi (fun (r : Int32) (V' : gV) => r = (mRem f n i).1 ∧ AfM V V' M f h H (mRem f n i).2) (RepS E T) (gA E)) args s 0 0 (gA E)) 81 [(2, .int (nI j)), (0, .ref M), (1, .int (nI d))] [] := by
    intro zf
    induction zf using Nat.strongRecOn with
    | _ zf ih =>
    intro V0 V1 d j zhf zd y0 k0 ei hj g1
    refine k_iload_n 81 82 C dX4_remove_81 rfl 0 rfl ?_
    refine k_aload_n 82 83 C dX4_remove_82 rfl 1 rfl ?_
    refine k_bipush 83 85 C dX4_remove_83 rfl (v := 14) rfl ?_
    refine k_callVI 85 88 C [_] [_] dX4_remove_85 rfl (ct_X4_of (k := 14) (by first | omega | (simp only [hdC, ceC]; omega)) hM (g1.2.2.2)) mi_X4_of ml_X4_65 im_X4_of se_X4_of ci_X4 (IsMdl.o ‹_›) rfl rfl ⟨Nat.le_of_ble_eq_true rfl, Nat.le_of_ble_eq_true rfl⟩ (Nat.le_of_ble_eq_true rfl) (Nat.zero_le _) (Nat.zero_le _) (fun r85 V85 p85 => ?_)
    obtain ⟨rfl, rfl⟩ := And.intro p85.1.symm p85.2
    refine k_rwI (y := nI (n - 1)) (by rw [rm_14b h14 (by omega)]; exact lN_i _) ?_
    refine k_icmp_ge 88 131 91 C dX4_remove_88 (by decide) rfl (fun h88 => ?_) (fun h88 => ?_)
    · have z88 : n - 1 = j := by
        have z1 : nI (n - 1) ≤ nI j := h88
        rw [n1k (by omega) (by omega)] at z1; omega
      refine k_aload_n 131 132 C dX4_remove_131 rfl 1 rfl ?_
      refine k_bipush 132 134 C dX4_remove_132 rfl (v := 14) rfl ?_
      refine k_callVI 134 137 C [_] [] dX4_remove_134 rfl (ct_X4_of (k := 14) (by first | omega | (simp only [hdC, ceC]; omega)) hM (g1.2.2.2)) mi_X4_of ml_X4_65 im_X4_of se_X4_of ci_X4 (IsMdl.o ‹_›) rfl rfl ⟨Nat.le_of_ble_eq_true rfl, Nat.le_of_ble_eq_true rfl⟩ (Nat.le_of_ble_eq_true rfl) (Nat.zero_le _) (Nat.zero_le _) (fun r134 V134 p134 => ?_)
      obtain ⟨rfl, rfl⟩ := And.intro p134.1.symm p134.2
      refine k_rwI (y := nI (n - 1)) (by rw [rm_14b h14 (by omega)]; exact lN_i _) ?_
      refine k_iret 137 C dX4_remove_137 rfl ?_
      rw [ei]
      exact ⟨rfl, AfM.of y0 k0 (by unfold rmF; rw [z88]; exact g1)⟩
    · have z88 : j < n - 1 := by
        have z1 : ¬ nI (n - 1) ≤ nI j := h88
        rw [n1k (by omega) (by omega)] at z1; omega
      refine k_aload_n 91 92 C dX4_remove_91 rfl 1 rfl ?_
      refine k_getF 92 95 C dX4_remove_92 rfl ci_X4 0 fl_X4_7 (IsMdl.o ‹_›) (by decide) (IsMdl.f0 ‹_›) rfl ?_
      refine k_iload_n 95 96 C dX4_remove_95 rfl 0 rfl ?_
      refine k_iconst 96 97 C dX4_remove_96 rfl (v := 1) rfl ?_
      refine k_callSI 97 100 C [_, _] [_] dX4_remove_97 rfl (ct_X4_head (d := j) (k := 1)) mi_X4_head ml_X4_85 st_X4_head rfl rfl ⟨Nat.le_of_ble_eq_true rfl, Nat.le_of_ble_eq_true rfl⟩ (Nat.le_of_ble_eq_true rfl) (Nat.zero_le _) (Nat.zero_le _) (fun r97 V97 p97 => ?_)
      obtain ⟨rfl, rfl⟩ := And.intro p97.1.symm p97.2
      refine k_dup2 100 101 C dX4_remove_100 rfl rfl rfl ?_
      refine k_laldP 101 102 C dX4_remove_101 rfl ‹_› (f := (mrP (rmB f n d) (nI d).toInt64 j)) (g1.2.2.2) (c0 := hdC (j) (1)) (by first | omega | (simp only [hdC, ceC]; omega)) ?_
      refine k_aload_n 102 103 C dX4_remove_102 rfl 1 rfl ?_
      refine k_getF 103 106 C dX4_remove_103 rfl ci_X4 0 fl_X4_7 (IsMdl.o ‹_›) (by decide) (IsMdl.f0 ‹_›) rfl ?_
      refine k_iload_n 106 107 C dX4_remove_106 rfl 0 rfl ?_
      refine k_iconst 107 108 C dX4_remove_107 rfl (v := 1) rfl ?_
      refine k_callSI 108 111 C [_, _] [_, _, _, _] dX4_remove_108 rfl (ct_X4_head (d := j) (k := 1)) mi_X4_head ml_X4_85 st_X4_head rfl rfl ⟨Nat.le_of_ble_eq_true rfl, Nat.le_of_ble_eq_true rfl⟩ (Nat.le_of_ble_eq_true rfl) (Nat.zero_le _) (Nat.zero_le _) (fun r108 V108 p108 => ?_)
      obtain ⟨rfl, rfl⟩ := And.intro p108.1.symm p108.2
      refine k_laldP 111 112 C dX4_remove_111 rfl ‹_› (f := (mrP (rmB f n d) (nI d).toInt64 j)) (g1.2.2.2) (c0 := hdC (j) (1)) (by first | omega | (simp only [hdC, ceC]; omega)) ?_
      refine k_iload_n 112 113 C dX4_remove_112 rfl 2 rfl ?_
      refine k_i2l 113 114 C dX4_remove_113 rfl  ?_
      refine k_lcmp_le 114 115 122 118 C dX4_remove_114 rfl dX4_remove_115 (by decide) rfl (fun h115 => ?_) (fun h115 => ?_)
      · have z115 : (if mrP (rmB f n d) (nI d).toInt64 j (hdC j 1) ≤ (nI d).toInt64 then (0 : Int64) else 1) = 0 := if_pos h115
        refine k_lconst 122 123 C dX4_remove_122 rfl (v := 0) rfl ?_
        refine k_lsub 123 124 C dX4_remove_123 rfl  ?_
        refine k_lastP 124 125 C dX4_remove_124 rfl ‹_› (f := (mrP (rmB f n d) (nI d).toInt64 j)) (g1.2.2.2) (c0 := hdC (j) (1)) (by first | omega | (simp only [hdC, ceC]; omega)) (fun V124 p124 => ?_)
        refine k_iinc 125 128 C [(2, _), (0, _), (1, _)] (nI (j + 1)) dX4_remove_125 rfl 0 rfl (nI_1 (j)) (by decide) rfl ?_
        refine k_goto 128 81 C dX4_remove_128 (by decide) ?_
        exact ih (n - 1 - (j + 1)) (by omega) _ _ d (j + 1) rfl zd y0 k0 ei (by omega) (by unfold mrP; rw [z115]; exact (g1).trans p124)
      · have z115 : (if mrP (rmB f n d) (nI d).toInt64 j (hdC j 1) ≤ (nI d).toInt64 then (0 : Int64) else 1) = 1 := if_neg h115
        refine k_lconst 118 119 C dX4_remove_118 rfl (v := 1) rfl ?_
        refine k_goto 119 123 C dX4_remove_119 (by decide) ?_
        refine k_lsub 123 124 C dX4_remove_123 rfl  ?_
        refine k_lastP 124 125 C dX4_remove_124 rfl ‹_› (f := (mrP (rmB f n d) (nI d).toInt64 j)) (g1.2.2.2) (c0 := hdC (j) (1)) (by first | omega | (simp only [hdC, ceC]; omega)) (fun V124 p124 => ?_)
        refine k_iinc 125 128 C [(2, _), (0, _), (1, _)] (nI (j + 1)) dX4_remove_125 rfl 0 rfl (nI_1 (j)) (by decide) rfl ?_
        refine k_goto 128 81 C dX4_remove_128 (by decide) ?_
        exact ih (n - 1 - (j + 1)) (by omega) _ _ d (j + 1) rfl zd y0 k0 ei (by omega) (by unfold mrP; rw [z115]; exact (g1).trans p124)
  have loop43 : ∀ (zf : Nat) (V0 V1 : gV) (d w : Nat), 150 * (n - 1 - d) - w = zf → (d < n) → (HQ V0 M (remN h) (keepH f h H)) → (KpM V V0 M) → (mRem f n i = (nI (n - 1), some (rmF f n d))) → (w ≤ 150 * (n - 1 - d)) → (Pg V0 V1 M (rmL (va_up f 14 (f 14 - 1)) d w)) → KW E T V1 p l e { frames := 2, cells := 0, slots := 0, locals := 45 } s m args below meth c 3 0 0 (MQ below (va_Qi (fun (r : Int32) (V' : gV) => r = (mRem f n i).1 ∧ AfM V V' M f h H (mRem f n i).2) (RepS E T) (gA E)) args s 0 0 (gA E)) 43 [(2, .int (nI (hdC d 0 + w))), (0, .ref M), (1, .int (nI d))] [] := by
    intro zf
    induction zf using Nat.strongRecOn with
    | _ zf ih =>
    intro V0 V1 d w zhf zd y0 k0 ei hw2 g1
    refine k_iload_n 43 44 C dX4_remove_43 rfl 0 rfl ?_
    refine k_aload_n 44 45 C dX4_remove_44 rfl 1 rfl ?_
    refine k_bipush 45 47 C dX4_remove_45 rfl (v := 14) rfl ?_
    refine k_callVI 47 50 C [_] [_] dX4_remove_47 rfl (ct_X4_of (k := 14) (by first | omega | (simp only [hdC, ceC]; omega)) hM (g1.2.2.2)) mi_X4_of ml_X4_65 im_X4_of se_X4_of ci_X4 (IsMdl.o ‹_›) rfl rfl ⟨Nat.le_of_ble_eq_true rfl, Nat.le_of_ble_eq_true rfl⟩ (Nat.le_of_ble_eq_true rfl) (Nat.zero_le _) (Nat.zero_le _) (fun r47 V47 p47 => ?_)
    obtain ⟨rfl, rfl⟩ := And.intro p47.1.symm p47.2
    refine k_rwI (y := nI (n - 1)) (by rw [rm_14 h14 (by omega)]; exact lN_i _) ?_
    refine k_iconst 50 51 C dX4_remove_50 rfl (v := 0) rfl ?_
    refine k_callSI 51 54 C [_, _] [_] dX4_remove_51 rfl (ct_X4_head (d := n - 1) (k := 0)) mi_X4_head ml_X4_85 st_X4_head rfl rfl ⟨Nat.le_of_ble_eq_true rfl, Nat.le_of_ble_eq_true rfl⟩ (Nat.le_of_ble_eq_true rfl) (Nat.zero_le _) (Nat.zero_le _) (fun r51 V51 p51 => ?_)
    obtain ⟨rfl, rfl⟩ := And.intro p51.1.symm p51.2
    refine k_icmp_ge 54 79 57 C dX4_remove_54 (by decide) rfl (fun h54 => ?_) (fun h54 => ?_)
    · have z54 : w = 150 * (n - 1 - d) := by
        have z1 : nI (hdC (n - 1) 0) ≤ nI (hdC d 0 + w) := h54
        rw [n1k (by unfold hdC; omega) (by unfold hdC; omega)] at z1
        unfold hdC at z1; omega
      refine k_iconst 79 80 C dX4_remove_79 rfl (v := 0) rfl ?_
      refine k_istore_n 80 81 C [(2, _), (0, _), (1, _)] dX4_remove_80 rfl (by decide) rfl ?_
      exact loop81 _ _ _ d 0 rfl zd y0 k0 ei (Nat.zero_le _) (by rw [z54] at g1; exact g1)
    · have z54 : w < 150 * (n - 1 - d) := by
        have z1 : ¬ nI (hdC (n - 1) 0) ≤ nI (hdC d 0 + w) := h54
        rw [n1k (by unfold hdC; omega) (by unfold hdC; omega)] at z1
        unfold hdC at z1; omega
      refine k_aload_n 57 58 C dX4_remove_57 rfl 1 rfl ?_
      refine k_getF 58 61 C dX4_remove_58 rfl ci_X4 0 fl_X4_7 (IsMdl.o ‹_›) (by decide) (IsMdl.f0 ‹_›) rfl ?_
      refine k_iload_n 61 62 C dX4_remove_61 rfl 0 rfl ?_
      refine k_aload_n 62 63 C dX4_remove_62 rfl 1 rfl ?_
      refine k_getF 63 66 C dX4_remove_63 rfl ci_X4 0 fl_X4_7 (IsMdl.o ‹_›) (by decide) (IsMdl.f0 ‹_›) rfl ?_
      refine k_iload_n 66 67 C dX4_remove_66 rfl 0 rfl ?_
      refine k_sipush 67 70 C dX4_remove_67 rfl (v := 150) rfl ?_
      refine k_iadd 70 71 C dX4_remove_70 rfl  ?_
      refine k_rwI (y := nI ((hdC d 0 + w) + (150))) (nI_add (hdC d 0 + w) (150)) ?_
      refine k_laldP 71 72 C dX4_remove_71 rfl ‹_› (f := (rmL (va_up f 14 (f 14 - 1)) d w)) (g1.2.2.2) (c0 := (hdC d 0 + w) + (150)) (by first | omega | (simp only [hdC, ceC]; omega)) ?_
      refine k_lastP 72 73 C dX4_remove_72 rfl ‹_› (f := (rmL (va_up f 14 (f 14 - 1)) d w)) (g1.2.2.2) (c0 := hdC d 0 + w) (by first | omega | (simp only [hdC, ceC]; omega)) (fun V72 p72 => ?_)
      refine k_iinc 73 76 C [(2, _), (0, _), (1, _)] (nI (hdC d 0 + w + 1)) dX4_remove_73 rfl 0 rfl (nI_1 (hdC d 0 + w)) (by decide) rfl ?_
      refine k_goto 76 43 C dX4_remove_76 (by decide) ?_
      exact ih (150 * (n - 1 - d) - (w + 1)) (by omega) _ _ d (w + 1) rfl zd y0 k0 ei (by omega) (by rw [← rmL_s]; exact (g1).trans p72)
  refine k_aload_n 0 1 C dX4_remove_0 rfl 0 rfl ?_
  refine k_iload_n 1 2 C dX4_remove_1 rfl 1 rfl ?_
  refine k_callVI 2 5 C [_] [] dX4_remove_2 rfl (ct_X4_isDrawing hM hf hw) mi_X4_isDrawing ml_X4_89 im_X4_isDrawing se_X4_isDrawing ci_X4 (IsMdl.o ‹_›) rfl rfl ⟨Nat.le_of_ble_eq_true rfl, Nat.le_of_ble_eq_true rfl⟩ (Nat.le_of_ble_eq_true rfl) (Nat.zero_le _) (Nat.zero_le _) (fun r2 V2 p2 => ?_)
  obtain ⟨rfl, rfl⟩ := And.intro p2.1.symm p2.2
  refine k_ifb_ne 5 11 8 C dX4_remove_5 (by decide) rfl (fun h5 => ?_) (fun h5 => ?_)
  · obtain ⟨d, zd, rfl, zc⟩ := inM_n (by omega) h5
    refine k_aload_n 11 12 C dX4_remove_11 rfl 0 rfl ?_
    refine k_iload_n 12 13 C dX4_remove_12 rfl 1 rfl ?_
    refine k_callVI 13 16 C [_] [] dX4_remove_13 rfl (ct_X4_isCopied hM hf hw) mi_X4_isCopied ml_X4_114 im_X4_isCopied se_X4_isCopied ci_X4 (IsMdl.o ‹_›) rfl rfl ⟨Nat.le_of_ble_eq_true rfl, Nat.le_of_ble_eq_true rfl⟩ (Nat.le_of_ble_eq_true rfl) (Nat.zero_le _) (Nat.zero_le _) (fun r13 V13 p13 => ?_)
    obtain ⟨rfl, rfl⟩ := And.intro p13.1.symm p13.2
    refine k_ifb_eq 16 22 19 C dX4_remove_16 (by decide) rfl (fun h16 => ?_) (fun h16 => ?_)
    · have ee : mRem f n (nI d) = (nI (n - 1), some (rmF f n d)) := by
        unfold mRem; rw [if_neg (fun zz => zz h5), if_neg h16, zc]
      refine k_aload_n 22 23 C dX4_remove_22 rfl 0 rfl ?_
      refine k_callVV 23 26 C [] [] dX4_remove_23 rfl (ct_X4_keep hM hf hh) mi_X4_keep ml_X4_62 im_X4_keep se_X4_keep ci_X4 (IsMdl.o ‹_›) rfl rfl ⟨Nat.le_of_ble_eq_true rfl, Nat.le_of_ble_eq_true rfl⟩ (Nat.le_of_ble_eq_true rfl) (Nat.zero_le _) (Nat.zero_le _) (fun V23 p23 => ?_)
      obtain ⟨q23, y23, k23⟩ := p23
      refine k_aload_n 26 27 C dX4_remove_26 rfl 0 rfl ?_
      refine k_getF 27 30 C dX4_remove_27 rfl ci_X4 0 fl_X4_7 (IsMdl.o ‹_›) (by decide) (IsMdl.f0 ‹_›) rfl ?_
      refine k_bipush 30 32 C dX4_remove_30 rfl (v := 14) rfl ?_
      refine k_dup2 32 33 C dX4_remove_32 rfl rfl rfl ?_
      refine k_laldP 33 34 C dX4_remove_33 rfl ‹_› (f := f) (q23) (c0 := 14) (by first | omega | (simp only [hdC, ceC]; omega)) ?_
      refine k_lconst 34 35 C dX4_remove_34 rfl (v := 1) rfl ?_
      refine k_lsub 35 36 C dX4_remove_35 rfl  ?_
      refine k_lastP 36 37 C dX4_remove_36 rfl ‹_› (f := f) (q23) (c0 := 14) (by first | omega | (simp only [hdC, ceC]; omega)) (fun V36 p36 => ?_)
      refine k_iload_n 37 38 C dX4_remove_37 rfl 1 rfl ?_
      refine k_iconst 38 39 C dX4_remove_38 rfl (v := 0) rfl ?_
      refine k_callSI 39 42 C [_, _] [] dX4_remove_39 rfl (ct_X4_head (d := d) (k := 0)) mi_X4_head ml_X4_85 st_X4_head rfl rfl ⟨Nat.le_of_ble_eq_true rfl, Nat.le_of_ble_eq_true rfl⟩ (Nat.le_of_ble_eq_true rfl) (Nat.zero_le _) (Nat.zero_le _) (fun r39 V39 p39 => ?_)
      obtain ⟨rfl, rfl⟩ := And.intro p39.1.symm p39.2
      refine k_istore_n 42 43 C [(2, _), (0, _), (1, _)] dX4_remove_42 rfl (by decide) rfl ?_
      exact loop43 _ _ _ d 0 rfl zd y23 k23 ee (Nat.zero_le _) (by rw [rmL_0]; exact ((Pg.rf q23)).trans p36)
    · refine k_ldc 19 21 C dX4_remove_19 rfl kc_X4_117 ?_
      refine k_iret 21 C dX4_remove_21 rfl ?_
      have ee : mRem f n (nI d) = (-2000000002, none) := by
        unfold mRem; rw [if_neg (fun zz => zz h5), if_pos h16]
      exact ⟨by rw [ee], by rw [ee]; exact AfM.no hf hh⟩
  · refine k_ldc 8 10 C dX4_remove_8 rfl kc_X4_61 ?_
    refine k_iret 10 C dX4_remove_10 rfl ?_
    have ee : mRem f n i = (-2000000001, none) := by
      unfold mRem; rw [if_pos h5]
    exact ⟨by rw [ee], by rw [ee]; exact AfM.no hf hh⟩
/-! copies -/
def cp1 (f : Nat → Int64) (n d : Nat) : Nat → Int64 := va_up (bgF f n) (hdC n 1) (nI d).toInt64
def cpN (f : Nat → Int64) (n d : Nat) : Int64 := rdN (cp1 f n d (hdC d 2) * cp1 f n d 0) (cp1 f n d (hdC d 3) * cp1 f n d 1)
def cpD (f : Nat → Int64) (n d : Nat) : Int64 := rdD (cp1 f n d (hdC d 2) * cp1 f n d 0) (cp1 f n d (hdC d 3) * cp1 f n d 1)
def cp2 (f : Nat → Int64) (n d : Nat) : Nat → Int64 := va_up (va_up (cp1 f n d) (hdC n 2) (cpN f n d)) (hdC n 2 + 1) (cpD f n d)
def cp3 (g : Nat → Int64) (n d ax : Nat) : Nat → Int64 := shF (va_up g (hdC n (4 + ax)) (g (hdC d (4 + ax)) * (sgf g ax).toInt64)) d n ax
def cp4 (f : Nat → Int64) (n d : Nat) : Nat → Int64 := cp3 (cp3 (cp2 f n d) n d 0) n d 1
def cpT (g : Nat → Int64) (d n : Nat) : Nat → Nat → Int64
  | 0 => g
  | k + 1 => mtF (cpT g d n k) d n k
def cpB0 (f : Nat → Int64) (n d : Nat) : Bool := decide (¬ 100000 < cpN f n d) && decide (¬ 100000 < cpD f n d)
def cpB (g : Nat → Int64) (d n : Nat) (b : Bool) : Nat → Bool
  | 0 => b
  | k + 1 => (cpB g d n b k && decide (¬ 100000 < cpT g d n (k + 1) (ceC n k + 1))) && decide (¬ 100000 < cpT g d n (k + 1) (ceC n k + 3))
def cpF (f : Nat → Int64) (n d z : Nat) : Nat → Int64 := va_up (cpT (cp4 f n d) d n z) (hdC n 0) (nI z).toInt64
def cpZ (f : Nat → Int64) (n d z : Nat) : Bool := cpB (cp4 f n d) d n (cpB0 f n d) z
/-- tracing can be reckoned -/
def CpOK (f : Nat → Int64) (n d z : Nat) : Prop := ∀ k, k < z → cpT (cp4 f n d) d n k (ceC d k + 4) = 1 → FoOK (cpT (cp4 f n d) d n k) d n k 0 ∧ FoOK (mtS true (cpT (cp4 f n d) d n k) d n k 0) d n k 1
/-- below the new drawing's cells -/
theorem mtS_lo {b : Bool} {g : Nat → Int64} {d n k ax j : Nat} (hj : j < 15 + 150 * n) : mtS b g d n k ax j = g j := by
  unfold mtS
  rw [va_up_ne _ _ (by unfold ceC; omega), va_up_ne _ _ (by unfold ceC; omega)]
theorem mtF_lo {g : Nat → Int64} {d n k j : Nat} (hj : j < 15 + 150 * n) : mtF g d n k j = g j := by
  unfold mtF mtT
  rw [va_up_ne _ _ (by unfold ceC; omega), mtS_lo hj, mtS_lo hj]
theorem cpT_lo {g : Nat → Int64} {d n j : Nat} (hj : j < 15 + 150 * n) : ∀ k, cpT g d n k j = g j
  | 0 => rfl
  | k + 1 => (mtF_lo hj).trans (cpT_lo hj k)
theorem cp3_lo {g : Nat → Int64} {d n ax j : Nat} (hj : j < 15 + 150 * n) : cp3 g n d ax j = g j := by
  unfold cp3 shF
  rw [va_up_ne _ _ (by unfold hdC; omega), va_up_ne _ _ (by unfold hdC; omega), va_up_ne _ _ (by unfold hdC; omega)]
theorem bgF_lo {f : Nat → Int64} {n j : Nat} (hj : j < 15 + 150 * n) (h14 : j ≠ 14) : bgF f n j = f j := by
  unfold bgF
  rw [va_up_ne _ _ (by unfold hdC; omega), va_up_ne _ _ (by unfold hdC; omega), va_up_ne _ _ (by unfold hdC; omega), va_up_ne _ _ (by unfold hdC; omega), va_up_ne _ _ (by unfold hdC; omega), va_up_ne _ _ (by unfold hdC; omega), va_up_ne _ _ (by unfold hdC; omega)]
  unfold bgL
  rw [if_neg (by omega), va_up_ne _ _ h14]
theorem bgF_14 {f : Nat → Int64} {n : Nat} : bgF f n 14 = f 14 + 1 := by
  unfold bgF
  rw [va_up_ne _ _ (by unfold hdC; omega), va_up_ne _ _ (by unfold hdC; omega), va_up_ne _ _ (by unfold hdC; omega), va_up_ne _ _ (by unfold hdC; omega), va_up_ne _ _ (by unfold hdC; omega), va_up_ne _ _ (by unfold hdC; omega), va_up_ne _ _ (by unfold hdC; omega)]
  unfold bgL
  rw [if_neg (by omega), va_up_self]
theorem cp1_lo {f : Nat → Int64} {d n j : Nat} (hj : j < 15 + 150 * n) (h14 : j ≠ 14) : cp1 f n d j = f j := by
  unfold cp1
  rw [va_up_ne _ _ (by unfold hdC; omega), bgF_lo hj h14]
theorem cp2_lo {f : Nat → Int64} {d n j : Nat} (hj : j < 15 + 150 * n) (h14 : j ≠ 14) : cp2 f n d j = f j := by
  unfold cp2
  rw [va_up_ne _ _ (by unfold hdC; omega), va_up_ne _ _ (by unfold hdC; omega), cp1_lo hj h14]
theorem cp4_lo {f : Nat → Int64} {d n j : Nat} (hj : j < 15 + 150 * n) (h14 : j ≠ 14) : cp4 f n d j = f j := by
  unfold cp4
  rw [cp3_lo hj, cp3_lo hj, cp2_lo hj h14]
theorem cp_lo {f : Nat → Int64} {d n k j : Nat} (hj : j < 15 + 150 * n) (h14 : j ≠ 14) : cpT (cp4 f n d) d n k j = f j := by
  rw [cpT_lo hj, cp4_lo hj h14]
theorem cpF_lo {f : Nat → Int64} {d n z j : Nat} (hj : j < 15 + 150 * n) (h14 : j ≠ 14) : cpF f n d z j = f j := by
  unfold cpF
  rw [va_up_ne _ _ (by unfold hdC; omega), cp_lo hj h14]
theorem cpF_14 {f : Nat → Int64} {d n z : Nat} : cpF f n d z 14 = f 14 + 1 := by
  unfold cpF
  rw [va_up_ne _ _ (by unfold hdC; omega), cpT_lo (by omega)]
  unfold cp4
  rw [cp3_lo (by omega), cp3_lo (by omega)]
  unfold cp2 cp1
  rw [va_up_ne _ _ (by unfold hdC; omega), va_up_ne _ _ (by unfold hdC; omega), va_up_ne _ _ (by unfold hdC; omega), bgF_14]
set_option maxHeartbeats 4000000 in
set_option maxRecDepth 100000 in
theorem ct_X4_copies {E : gE} {T : gT} {l : Launch} {V : gV} {M n d z : Nat} {f : Nat → Int64} (hM : IsMdl T M) (hf : PQ V M f) (h14 : f 14 = lN n) (hn : n ≤ 5) (hd : d < n) (hp : f (hdC d 0) = lN z) (hz : z ≤ 20) (hF : CpOK f n d z) : CtI E T l yX4_copies (gw yX4_copies cX4_copies 6 (some .boolean)) { frames := 6, cells := 0, slots := 0, locals := 165 } [.ref M, .int (nI d)] V (fun (r : Int32) (V' : gV) => Pg V V' M (cpF f n d z) ∧ r = bi (cpZ f n d z = true)) := by
  refine ctI_of (L := [(0, .ref M), (1, .int (nI d))]) (by decide) rfl (Nat.le_of_ble_eq_true rfl) rfl (fun p e s m args below meth c C => ?_)
  have loop152 : ∀ (zf : Nat) (V1 : gV) (k : Nat) (b : Bool), z - k = zf → (k ≤ z) → (Pg V V1 M (cpT (cp4 f n d) d n k)) → (cpB (cp4 f n d) d n (cpB0 f n d) k = b) → KW E T V1 p l e { frames := 6, cells := 0, slots := 0, locals := 165 } s m args below meth c 6 0 0 (MQ below (va_Qi (fun (r : Int32) (V' : gV) => Pg V V' M (cpF f n d z) ∧ r = bi (cpZ f n d z = true)) (RepS E T) (gA E)) args s 0 0 (gA E)) 152 [(4, .int (nI k)), (3, .int (bi (b = true))), (2, .int (nI n)), (0, .ref M), (1, .int (nI d))] [] := by
    intro zf
    induction zf using Nat.strongRecOn with
    | _ zf ih =>
    intro V1 k b zhf hk g1 hb
    refine k_iload 152 154 C dX4_copies_152 rfl 0 rfl ?_
    refine k_aload_n 154 155 C dX4_copies_154 rfl 3 rfl ?_
    refine k_iload_n 155 156 C dX4_copies_155 rfl 4 rfl ?_
    refine k_callVI 156 159 C [_] [_] dX4_copies_156 rfl (ct_X4_points (d := d) (by omega) hM (g1.2.2.2)) mi_X4_points ml_X4_93 im_X4_points se_X4_points ci_X4 (IsMdl.o ‹_›) rfl rfl ⟨Nat.le_of_ble_eq_true rfl, Nat.le_of_ble_eq_true rfl⟩ (Nat.le_of_ble_eq_true rfl) (Nat.zero_le _) (Nat.zero_le _) (fun r156 V156 p156 => ?_)
    obtain ⟨rfl, rfl⟩ := And.intro p156.1.symm p156.2
    refine k_rwI (y := nI z) (by rw [cp_lo (by unfold hdC; omega) (by unfold hdC; omega), hp]; exact lN_i _) ?_
    refine k_icmp_ge 159 226 162 C dX4_copies_159 (by decide) rfl (fun h159 => ?_) (fun h159 => ?_)
    · have z9 : k = z := by
        have z0 : nI z ≤ nI k := h159
        rw [n1k (by omega) (by omega)] at z0; omega
      refine k_aload_n 226 227 C dX4_copies_226 rfl 3 rfl ?_
      refine k_getF 227 230 C dX4_copies_227 rfl ci_X4 0 fl_X4_7 (IsMdl.o ‹_›) (by decide) (IsMdl.f0 ‹_›) rfl ?_
      refine k_iload_n 230 231 C dX4_copies_230 rfl 2 rfl ?_
      refine k_iconst 231 232 C dX4_copies_231 rfl (v := 0) rfl ?_
      refine k_callSI 232 235 C [_, _] [_] dX4_copies_232 rfl (ct_X4_head (d := n) (k := 0)) mi_X4_head ml_X4_85 st_X4_head rfl rfl ⟨Nat.le_of_ble_eq_true rfl, Nat.le_of_ble_eq_true rfl⟩ (Nat.le_of_ble_eq_true rfl) (Nat.zero_le _) (Nat.zero_le _) (fun r232 V232 p232 => ?_)
      obtain ⟨rfl, rfl⟩ := And.intro p232.1.symm p232.2
      refine k_aload_n 235 236 C dX4_copies_235 rfl 3 rfl ?_
      refine k_iload_n 236 237 C dX4_copies_236 rfl 4 rfl ?_
      refine k_callVI 237 240 C [_] [_, _] dX4_copies_237 rfl (ct_X4_points (d := d) (by omega) hM (g1.2.2.2)) mi_X4_points ml_X4_93 im_X4_points se_X4_points ci_X4 (IsMdl.o ‹_›) rfl rfl ⟨Nat.le_of_ble_eq_true rfl, Nat.le_of_ble_eq_true rfl⟩ (Nat.le_of_ble_eq_true rfl) (Nat.zero_le _) (Nat.zero_le _) (fun r237 V237 p237 => ?_)
      obtain ⟨rfl, rfl⟩ := And.intro p237.1.symm p237.2
      refine k_rwI (y := nI z) (by rw [cp_lo (by unfold hdC; omega) (by unfold hdC; omega), hp]; exact lN_i _) ?_
      refine k_i2l 240 241 C dX4_copies_240 rfl  ?_
      refine k_lastP 241 242 C dX4_copies_241 rfl ‹_› (f := (cpT (cp4 f n d) d n k)) (g1.2.2.2) (c0 := hdC (n) (0)) (by first | omega | (simp only [hdC, ceC]; omega)) (fun V241 p241 => ?_)
      refine k_iload_n 242 243 C dX4_copies_242 rfl 1 rfl ?_
      refine k_zret 243 C dX4_copies_243 rfl (by first | exact Or.inl rfl | exact Or.inr rfl | exact bi_01) ?_
      subst z9
      exact ⟨(g1).trans p241, by unfold cpZ; rw [hb]⟩
    · have z9 : k < z := by
        have z0 : ¬ nI z ≤ nI k := h159
        rw [n1k (by omega) (by omega)] at z0; omega
      have zm : z - (k + 1) < zf := by omega
      have zk : k + 1 ≤ z := z9
      refine k_aload_n 162 163 C dX4_copies_162 rfl 3 rfl ?_
      refine k_iload_n 163 164 C dX4_copies_163 rfl 4 rfl ?_
      refine k_iload_n 164 165 C dX4_copies_164 rfl 2 rfl ?_
      refine k_iload 165 167 C dX4_copies_165 rfl 0 rfl ?_
      refine k_callVV 167 170 C [_, _, _] [] dX4_copies_167 rfl (ct_X4_trace (by omega) (by omega) (by omega) (hF k z9) hM (g1.2.2.2)) mi_X4_trace ml_X4_147 im_X4_trace se_X4_trace ci_X4 (IsMdl.o ‹_›) rfl rfl ⟨Nat.le_of_ble_eq_true rfl, Nat.le_of_ble_eq_true rfl⟩ (Nat.le_of_ble_eq_true rfl) (Nat.zero_le _) (Nat.zero_le _) (fun V167 p167 => ?_)
      refine k_iload_n 170 171 C dX4_copies_170 rfl 2 rfl ?_
      refine k_iload 171 173 C dX4_copies_171 rfl 0 rfl ?_
      refine k_callSI 173 176 C [_, _] [] dX4_copies_173 rfl (ct_X4_cellOf (d := n) (k := k)) mi_X4_cellOf ml_X4_104 st_X4_cellOf rfl rfl ⟨Nat.le_of_ble_eq_true rfl, Nat.le_of_ble_eq_true rfl⟩ (Nat.le_of_ble_eq_true rfl) (Nat.zero_le _) (Nat.zero_le _) (fun r173 V173 p173 => ?_)
      obtain ⟨rfl, rfl⟩ := And.intro p173.1.symm p173.2
      refine k_istore 176 178 C [(5, _), (4, _), (3, _), (2, _), (0, _), (1, _)] dX4_copies_176 rfl (by decide) rfl ?_
      refine k_iload_n 178 179 C dX4_copies_178 rfl 2 rfl ?_
      refine k_ifb_eq 179 218 182 C dX4_copies_179 (by decide) rfl (fun h179 => ?_) (fun h179 => ?_)
      · have zbf : b = false := by cases b with | false => rfl | true => exact absurd rfl h179
        have zb2 : cpB (cp4 f n d) d n (cpB0 f n d) (k + 1) = false := by
          show ((cpB (cp4 f n d) d n (cpB0 f n d) k && decide (¬ 100000 < cpT (cp4 f n d) d n (k + 1) (ceC n k + 1))) && decide (¬ 100000 < cpT (cp4 f n d) d n (k + 1) (ceC n k + 3))) = _
          rw [hb, zbf]; rfl
        refine k_iconst 218 219 C dX4_copies_218 rfl (v := 0) rfl ?_
        refine k_istore_n 219 220 C [(3, _), (5, _), (4, _), (2, _), (0, _), (1, _)] dX4_copies_219 rfl (by decide) rfl ?_
        refine k_iinc 220 223 C [(4, _), (3, _), (5, _), (2, _), (0, _), (1, _)] (nI (k + 1)) dX4_copies_220 rfl 2 rfl (nI_1 (k)) (by decide) rfl ?_
        refine k_goto 223 152 C dX4_copies_223 (by decide) ?_
        refine k_perm [0, 1, 3, 4, 5] (L' := [(4, _), (3, _), (2, _), (0, _), (1, _)]) rfl ?_
        first
          | exact ih (z - (k + 1)) zm _ (k + 1) true rfl zk ((g1).trans p167) zb2
          | exact ih (z - (k + 1)) zm _ (k + 1) false rfl zk ((g1).trans p167) zb2
      · refine k_aload_n 182 183 C dX4_copies_182 rfl 4 rfl ?_
        refine k_getF 183 186 C dX4_copies_183 rfl ci_X4 0 fl_X4_7 (IsMdl.o ‹_›) (by decide) (IsMdl.f0 ‹_›) rfl ?_
        refine k_iload 186 188 C dX4_copies_186 rfl 0 rfl ?_
        refine k_iconst 188 189 C dX4_copies_188 rfl (v := 1) rfl ?_
        refine k_iadd 189 190 C dX4_copies_189 rfl  ?_
        refine k_rwI (y := nI ((ceC (n) (k)) + (1))) (nI_add (ceC (n) (k)) (1)) ?_
        refine k_laldP 190 191 C dX4_copies_190 rfl ‹_› (f := cpT (cp4 f n d) d n (k + 1)) (p167.2.2.2) (c0 := (ceC (n) (k)) + (1)) (by first | omega | (simp only [hdC, ceC]; omega)) ?_
        refine k_ldc2 191 194 C dX4_copies_191 rfl kl_X4_141 ?_
        refine k_lcmp_gt 194 195 218 198 C dX4_copies_194 rfl dX4_copies_195 (by decide) rfl (fun h195 => ?_) (fun h195 => ?_)
        · have zb2 : cpB (cp4 f n d) d n (cpB0 f n d) (k + 1) = false := by
            show ((cpB (cp4 f n d) d n (cpB0 f n d) k && decide (¬ 100000 < cpT (cp4 f n d) d n (k + 1) (ceC n k + 1))) && decide (¬ 100000 < cpT (cp4 f n d) d n (k + 1) (ceC n k + 3))) = _
            rw [decide_eq_false (p := ¬ 100000 < cpT (cp4 f n d) d n (k + 1) (ceC n k + 1)) (fun zz => zz h195), Bool.and_false]; rfl
          refine k_iconst 218 219 C dX4_copies_218 rfl (v := 0) rfl ?_
          refine k_istore_n 219 220 C [(3, _), (5, _), (4, _), (2, _), (0, _), (1, _)] dX4_copies_219 rfl (by decide) rfl ?_
          refine k_iinc 220 223 C [(4, _), (3, _), (5, _), (2, _), (0, _), (1, _)] (nI (k + 1)) dX4_copies_220 rfl 2 rfl (nI_1 (k)) (by decide) rfl ?_
          refine k_goto 223 152 C dX4_copies_223 (by decide) ?_
          refine k_perm [0, 1, 3, 4, 5] (L' := [(4, _), (3, _), (2, _), (0, _), (1, _)]) rfl ?_
          first
            | exact ih (z - (k + 1)) zm _ (k + 1) true rfl zk ((g1).trans p167) zb2
            | exact ih (z - (k + 1)) zm _ (k + 1) false rfl zk ((g1).trans p167) zb2
        · refine k_aload_n 198 199 C dX4_copies_198 rfl 4 rfl ?_
          refine k_getF 199 202 C dX4_copies_199 rfl ci_X4 0 fl_X4_7 (IsMdl.o ‹_›) (by decide) (IsMdl.f0 ‹_›) rfl ?_
          refine k_iload 202 204 C dX4_copies_202 rfl 0 rfl ?_
          refine k_iconst 204 205 C dX4_copies_204 rfl (v := 3) rfl ?_
          refine k_iadd 205 206 C dX4_copies_205 rfl  ?_
          refine k_rwI (y := nI ((ceC (n) (k)) + (3))) (nI_add (ceC (n) (k)) (3)) ?_
          refine k_laldP 206 207 C dX4_copies_206 rfl ‹_› (f := cpT (cp4 f n d) d n (k + 1)) (p167.2.2.2) (c0 := (ceC (n) (k)) + (3)) (by first | omega | (simp only [hdC, ceC]; omega)) ?_
          refine k_ldc2 207 210 C dX4_copies_207 rfl kl_X4_141 ?_
          refine k_lcmp_gt 210 211 218 214 C dX4_copies_210 rfl dX4_copies_211 (by decide) rfl (fun h211 => ?_) (fun h211 => ?_)
          · have zb2 : cpB (cp4 f n d) d n (cpB0 f n d) (k + 1) = false := by
              show ((cpB (cp4 f n d) d n (cpB0 f n d) k && decide (¬ 100000 < cpT (cp4 f n d) d n (k + 1) (ceC n k + 1))) && decide (¬ 100000 < cpT (cp4 f n d) d n (k + 1) (ceC n k + 3))) = _
              rw [decide_eq_false (p := ¬ 100000 < cpT (cp4 f n d) d n (k + 1) (ceC n k + 3)) (fun zz => zz h211), Bool.and_false]
            refine k_iconst 218 219 C dX4_copies_218 rfl (v := 0) rfl ?_
            refine k_istore_n 219 220 C [(3, _), (5, _), (4, _), (2, _), (0, _), (1, _)] dX4_copies_219 rfl (by decide) rfl ?_
            refine k_iinc 220 223 C [(4, _), (3, _), (5, _), (2, _), (0, _), (1, _)] (nI (k + 1)) dX4_copies_220 rfl 2 rfl (nI_1 (k)) (by decide) rfl ?_
            refine k_goto 223 152 C dX4_copies_223 (by decide) ?_
            refine k_perm [0, 1, 3, 4, 5] (L' := [(4, _), (3, _), (2, _), (0, _), (1, _)]) rfl ?_
            first
              | exact ih (z - (k + 1)) zm _ (k + 1) true rfl zk ((g1).trans p167) zb2
              | exact ih (z - (k + 1)) zm _ (k + 1) false rfl zk ((g1).trans p167) zb2
          · have zb2 : cpB (cp4 f n d) d n (cpB0 f n d) (k + 1) = true := by
              show ((cpB (cp4 f n d) d n (cpB0 f n d) k && decide (¬ 100000 < cpT (cp4 f n d) d n (k + 1) (ceC n k + 1))) && decide (¬ 100000 < cpT (cp4 f n d) d n (k + 1) (ceC n k + 3))) = _
              rw [hb, h179, decide_eq_true h195, decide_eq_true h211]; rfl
            refine k_iconst 214 215 C dX4_copies_214 rfl (v := 1) rfl ?_
            refine k_goto 215 219 C dX4_copies_215 (by decide) ?_
            refine k_istore_n 219 220 C [(3, _), (5, _), (4, _), (2, _), (0, _), (1, _)] dX4_copies_219 rfl (by decide) rfl ?_
            refine k_iinc 220 223 C [(4, _), (3, _), (5, _), (2, _), (0, _), (1, _)] (nI (k + 1)) dX4_copies_220 rfl 2 rfl (nI_1 (k)) (by decide) rfl ?_
            refine k_goto 223 152 C dX4_copies_223 (by decide) ?_
            refine k_perm [0, 1, 3, 4, 5] (L' := [(4, _), (3, _), (2, _), (0, _), (1, _)]) rfl ?_
            first
              | exact ih (z - (k + 1)) zm _ (k + 1) true rfl zk ((g1).trans p167) zb2
              | exact ih (z - (k + 1)) zm _ (k + 1) false rfl zk ((g1).trans p167) zb2
  have loop92 : ∀ (zf : Nat) (V1 : gV) (b : Bool), 0 = zf → (Pg V V1 M (cp2 f n d)) → (cpB0 f n d = b) → KW E T V1 p l e { frames := 6, cells := 0, slots := 0, locals := 165 } s m args below meth c 6 0 0 (MQ below (va_Qi (fun (r : Int32) (V' : gV) => Pg V V' M (cpF f n d z) ∧ r = bi (cpZ f n d z = true)) (RepS E T) (gA E)) args s 0 0 (gA E)) 92 [(3, .int (bi (b = true))), (2, .int (nI n)), (0, .ref M), (1, .int (nI d))] [] := by
    intro zf
    induction zf using Nat.strongRecOn with
    | _ zf ih =>
    intro V1 b zhf g1 hb
    refine k_iconst 92 93 C dX4_copies_92 rfl (v := 0) rfl ?_
    refine k_istore 93 95 C [(4, _), (3, _), (2, _), (0, _), (1, _)] dX4_copies_93 rfl (by decide) rfl ?_
    refine k_iload 95 97 C dX4_copies_95 rfl 0 rfl ?_
    refine k_iconst 97 98 C dX4_copies_97 rfl (v := 2) rfl ?_
    refine k_icmp_ge 98 149 101 C dX4_copies_98 (by decide) rfl (fun h98 => ?_) (fun h98 => ?_)
    · exact absurd h98 (by decide)
    · refine k_aload_n 101 102 C dX4_copies_101 rfl 3 rfl ?_
      refine k_getF 102 105 C dX4_copies_102 rfl ci_X4 0 fl_X4_7 (IsMdl.o ‹_›) (by decide) (IsMdl.f0 ‹_›) rfl ?_
      refine k_iload_n 105 106 C dX4_copies_105 rfl 2 rfl ?_
      refine k_iconst 106 107 C dX4_copies_106 rfl (v := 4) rfl ?_
      refine k_iload 107 109 C dX4_copies_107 rfl 0 rfl ?_
      refine k_iadd 109 110 C dX4_copies_109 rfl  ?_
      refine k_rwI (y := nI (4)) (nI_add (4) (0)) ?_
      refine k_callSI 110 113 C [_, _] [_] dX4_copies_110 rfl (ct_X4_head (d := n) (k := 4)) mi_X4_head ml_X4_85 st_X4_head rfl rfl ⟨Nat.le_of_ble_eq_true rfl, Nat.le_of_ble_eq_true rfl⟩ (Nat.le_of_ble_eq_true rfl) (Nat.zero_le _) (Nat.zero_le _) (fun r110 V110 p110 => ?_)
      obtain ⟨rfl, rfl⟩ := And.intro p110.1.symm p110.2
      refine k_aload_n 113 114 C dX4_copies_113 rfl 3 rfl ?_
      refine k_getF 114 117 C dX4_copies_114 rfl ci_X4 0 fl_X4_7 (IsMdl.o ‹_›) (by decide) (IsMdl.f0 ‹_›) rfl ?_
      refine k_iload_n 117 118 C dX4_copies_117 rfl 4 rfl ?_
      refine k_iconst 118 119 C dX4_copies_118 rfl (v := 4) rfl ?_
      refine k_iload 119 121 C dX4_copies_119 rfl 0 rfl ?_
      refine k_iadd 121 122 C dX4_copies_121 rfl  ?_
      refine k_rwI (y := nI (4)) (nI_add (4) (0)) ?_
      refine k_callSI 122 125 C [_, _] [_, _, _] dX4_copies_122 rfl (ct_X4_head (d := d) (k := 4)) mi_X4_head ml_X4_85 st_X4_head rfl rfl ⟨Nat.le_of_ble_eq_true rfl, Nat.le_of_ble_eq_true rfl⟩ (Nat.le_of_ble_eq_true rfl) (Nat.zero_le _) (Nat.zero_le _) (fun r122 V122 p122 => ?_)
      obtain ⟨rfl, rfl⟩ := And.intro p122.1.symm p122.2
      refine k_laldP 125 126 C dX4_copies_125 rfl ‹_› (f := (cp2 f n d)) (g1.2.2.2) (c0 := hdC (d) (4)) (by first | omega | (simp only [hdC, ceC]; omega)) ?_
      refine k_aload_n 126 127 C dX4_copies_126 rfl 3 rfl ?_
      refine k_iload 127 129 C dX4_copies_127 rfl 0 rfl ?_
      refine k_callVI 129 132 C [_] [_, _, _] dX4_copies_129 rfl (ct_X4_signOf (ax := 0) (by decide) hM (g1.2.2.2)) mi_X4_signOf ml_X4_124 im_X4_signOf se_X4_signOf ci_X4 (IsMdl.o ‹_›) rfl rfl ⟨Nat.le_of_ble_eq_true rfl, Nat.le_of_ble_eq_true rfl⟩ (Nat.le_of_ble_eq_true rfl) (Nat.zero_le _) (Nat.zero_le _) (fun r129 V129 p129 => ?_)
      obtain ⟨rfl, rfl⟩ := And.intro p129.1.symm p129.2
      refine k_i2l 132 133 C dX4_copies_132 rfl  ?_
      refine k_lmul 133 134 C dX4_copies_133 rfl  ?_
      refine k_lastP 134 135 C dX4_copies_134 rfl ‹_› (f := (cp2 f n d)) (g1.2.2.2) (c0 := hdC (n) (4)) (by first | omega | (simp only [hdC, ceC]; omega)) (fun V134 p134 => ?_)
      refine k_aload_n 135 136 C dX4_copies_135 rfl 3 rfl ?_
      refine k_iload_n 136 137 C dX4_copies_136 rfl 4 rfl ?_
      refine k_iload_n 137 138 C dX4_copies_137 rfl 2 rfl ?_
      refine k_iload 138 140 C dX4_copies_138 rfl 0 rfl ?_
      refine k_callVV 140 143 C [_, _, _] [] dX4_copies_140 rfl (ct_X4_shift (i := d) (w := n) (ax := 0) (by omega) (by omega) (by decide) hM (p134.2.2.2)) mi_X4_shift ml_X4_143 im_X4_shift se_X4_shift ci_X4 (IsMdl.o ‹_›) rfl rfl ⟨Nat.le_of_ble_eq_true rfl, Nat.le_of_ble_eq_true rfl⟩ (Nat.le_of_ble_eq_true rfl) (Nat.zero_le _) (Nat.zero_le _) (fun V140 p140 => ?_)
      have zS0 : Pg V _ M (cp3 (cp2 f n d) n d 0) := ((g1).trans p134).trans p140
      refine k_iinc 143 146 C [(4, _), (3, _), (2, _), (0, _), (1, _)] (nI (1)) dX4_copies_143 rfl 0 rfl (nI_1 (0)) (by decide) rfl ?_
      refine k_goto 146 95 C dX4_copies_146 (by decide) ?_
      refine k_iload 95 97 C dX4_copies_95 rfl 0 rfl ?_
      refine k_iconst 97 98 C dX4_copies_97 rfl (v := 2) rfl ?_
      refine k_icmp_ge 98 149 101 C dX4_copies_98 (by decide) rfl (fun h98 => ?_) (fun h98 => ?_)
      · exact absurd h98 (by decide)
      · refine k_aload_n 101 102 C dX4_copies_101 rfl 3 rfl ?_
        refine k_getF 102 105 C dX4_copies_102 rfl ci_X4 0 fl_X4_7 (IsMdl.o ‹_›) (by decide) (IsMdl.f0 ‹_›) rfl ?_
        refine k_iload_n 105 106 C dX4_copies_105 rfl 2 rfl ?_
        refine k_iconst 106 107 C dX4_copies_106 rfl (v := 4) rfl ?_
        refine k_iload 107 109 C dX4_copies_107 rfl 0 rfl ?_
        refine k_iadd 109 110 C dX4_copies_109 rfl  ?_
        refine k_rwI (y := nI (5)) (nI_add (4) (1)) ?_
        refine k_callSI 110 113 C [_, _] [_] dX4_copies_110 rfl (ct_X4_head (d := n) (k := 5)) mi_X4_head ml_X4_85 st_X4_head rfl rfl ⟨Nat.le_of_ble_eq_true rfl, Nat.le_of_ble_eq_true rfl⟩ (Nat.le_of_ble_eq_true rfl) (Nat.zero_le _) (Nat.zero_le _) (fun r110 V110 p110 => ?_)
        obtain ⟨rfl, rfl⟩ := And.intro p110.1.symm p110.2
        refine k_aload_n 113 114 C dX4_copies_113 rfl 3 rfl ?_
        refine k_getF 114 117 C dX4_copies_114 rfl ci_X4 0 fl_X4_7 (IsMdl.o ‹_›) (by decide) (IsMdl.f0 ‹_›) rfl ?_
        refine k_iload_n 117 118 C dX4_copies_117 rfl 4 rfl ?_
        refine k_iconst 118 119 C dX4_copies_118 rfl (v := 4) rfl ?_
        refine k_iload 119 121 C dX4_copies_119 rfl 0 rfl ?_
        refine k_iadd 121 122 C dX4_copies_121 rfl  ?_
        refine k_rwI (y := nI (5)) (nI_add (4) (1)) ?_
        refine k_callSI 122 125 C [_, _] [_, _, _] dX4_copies_122 rfl (ct_X4_head (d := d) (k := 5)) mi_X4_head ml_X4_85 st_X4_head rfl rfl ⟨Nat.le_of_ble_eq_true rfl, Nat.le_of_ble_eq_true rfl⟩ (Nat.le_of_ble_eq_true rfl) (Nat.zero_le _) (Nat.zero_le _) (fun r122 V122 p122 => ?_)
        obtain ⟨rfl, rfl⟩ := And.intro p122.1.symm p122.2
        refine k_laldP 125 126 C dX4_copies_125 rfl ‹_› (f := cp3 (cp2 f n d) n d 0) (zS0.2.2.2) (c0 := hdC (d) (5)) (by first | omega | (simp only [hdC, ceC]; omega)) ?_
        refine k_aload_n 126 127 C dX4_copies_126 rfl 3 rfl ?_
        refine k_iload 127 129 C dX4_copies_127 rfl 0 rfl ?_
        refine k_callVI 129 132 C [_] [_, _, _] dX4_copies_129 rfl (ct_X4_signOf (ax := 1) (by decide) hM (zS0.2.2.2)) mi_X4_signOf ml_X4_124 im_X4_signOf se_X4_signOf ci_X4 (IsMdl.o ‹_›) rfl rfl ⟨Nat.le_of_ble_eq_true rfl, Nat.le_of_ble_eq_true rfl⟩ (Nat.le_of_ble_eq_true rfl) (Nat.zero_le _) (Nat.zero_le _) (fun r129 V129 p129 => ?_)
        obtain ⟨rfl, rfl⟩ := And.intro p129.1.symm p129.2
        refine k_i2l 132 133 C dX4_copies_132 rfl  ?_
        refine k_lmul 133 134 C dX4_copies_133 rfl  ?_
        refine k_lastP 134 135 C dX4_copies_134 rfl ‹_› (f := cp3 (cp2 f n d) n d 0) (zS0.2.2.2) (c0 := hdC (n) (5)) (by first | omega | (simp only [hdC, ceC]; omega)) (fun V134 p134 => ?_)
        refine k_aload_n 135 136 C dX4_copies_135 rfl 3 rfl ?_
        refine k_iload_n 136 137 C dX4_copies_136 rfl 4 rfl ?_
        refine k_iload_n 137 138 C dX4_copies_137 rfl 2 rfl ?_
        refine k_iload 138 140 C dX4_copies_138 rfl 0 rfl ?_
        refine k_callVV 140 143 C [_, _, _] [] dX4_copies_140 rfl (ct_X4_shift (i := d) (w := n) (ax := 1) (by omega) (by omega) (by decide) hM (p134.2.2.2)) mi_X4_shift ml_X4_143 im_X4_shift se_X4_shift ci_X4 (IsMdl.o ‹_›) rfl rfl ⟨Nat.le_of_ble_eq_true rfl, Nat.le_of_ble_eq_true rfl⟩ (Nat.le_of_ble_eq_true rfl) (Nat.zero_le _) (Nat.zero_le _) (fun V140 p140 => ?_)
        have zS1 : Pg V _ M (cp4 f n d) := ((zS0).trans p134).trans p140
        refine k_iinc 143 146 C [(4, _), (3, _), (2, _), (0, _), (1, _)] (nI (2)) dX4_copies_143 rfl 0 rfl (nI_1 (1)) (by decide) rfl ?_
        refine k_goto 146 95 C dX4_copies_146 (by decide) ?_
        refine k_iload 95 97 C dX4_copies_95 rfl 0 rfl ?_
        refine k_iconst 97 98 C dX4_copies_97 rfl (v := 2) rfl ?_
        refine k_icmp_ge 98 149 101 C dX4_copies_98 (by decide) rfl (fun h98 => ?_) (fun h98 => ?_)
        · refine k_iconst 149 150 C dX4_copies_149 rfl (v := 0) rfl ?_
          refine k_istore 150 152 C [(4, _), (3, _), (2, _), (0, _), (1, _)] dX4_copies_150 rfl (by decide) rfl ?_
          exact loop152 _ _ 0 b rfl (Nat.zero_le _) (zS1) hb
        · exact absurd h98 (by decide)
  refine k_aload_n 0 1 C dX4_copies_0 rfl 0 rfl ?_
  refine k_callVI 1 4 C [] [] dX4_copies_1 rfl (ct_X4_begins hM hf h14 hn) mi_X4_begins ml_X4_100 im_X4_begins se_X4_begins ci_X4 (IsMdl.o ‹_›) rfl rfl ⟨Nat.le_of_ble_eq_true rfl, Nat.le_of_ble_eq_true rfl⟩ (Nat.le_of_ble_eq_true rfl) (Nat.zero_le _) (Nat.zero_le _) (fun r1 V1 p1 => ?_)
  obtain ⟨zb1, rfl⟩ := p1
  refine k_istore_n 4 5 C [(2, _), (0, _), (1, _)] dX4_copies_4 rfl (by decide) rfl ?_
  refine k_aload_n 5 6 C dX4_copies_5 rfl 1 rfl ?_
  refine k_getF 6 9 C dX4_copies_6 rfl ci_X4 0 fl_X4_7 (IsMdl.o ‹_›) (by decide) (IsMdl.f0 ‹_›) rfl ?_
  refine k_iload_n 9 10 C dX4_copies_9 rfl 0 rfl ?_
  refine k_iconst 10 11 C dX4_copies_10 rfl (v := 1) rfl ?_
  refine k_callSI 11 14 C [_, _] [_] dX4_copies_11 rfl (ct_X4_head (d := n) (k := 1)) mi_X4_head ml_X4_85 st_X4_head rfl rfl ⟨Nat.le_of_ble_eq_true rfl, Nat.le_of_ble_eq_true rfl⟩ (Nat.le_of_ble_eq_true rfl) (Nat.zero_le _) (Nat.zero_le _) (fun r11 V11 p11 => ?_)
  obtain ⟨rfl, rfl⟩ := And.intro p11.1.symm p11.2
  refine k_iload_n 14 15 C dX4_copies_14 rfl 2 rfl ?_
  refine k_i2l 15 16 C dX4_copies_15 rfl  ?_
  refine k_lastP 16 17 C dX4_copies_16 rfl ‹_› (f := bgF f n) (zb1.2.2.2) (c0 := hdC (n) (1)) (by first | omega | (simp only [hdC, ceC]; omega)) (fun V16 p16 => ?_)
  refine k_aload_n 17 18 C dX4_copies_17 rfl 1 rfl ?_
  refine k_aload_n 18 19 C dX4_copies_18 rfl 1 rfl ?_
  refine k_getF 19 22 C dX4_copies_19 rfl ci_X4 0 fl_X4_7 (IsMdl.o ‹_›) (by decide) (IsMdl.f0 ‹_›) rfl ?_
  refine k_iload_n 22 23 C dX4_copies_22 rfl 2 rfl ?_
  refine k_iconst 23 24 C dX4_copies_23 rfl (v := 2) rfl ?_
  refine k_callSI 24 27 C [_, _] [_, _] dX4_copies_24 rfl (ct_X4_head (d := d) (k := 2)) mi_X4_head ml_X4_85 st_X4_head rfl rfl ⟨Nat.le_of_ble_eq_true rfl, Nat.le_of_ble_eq_true rfl⟩ (Nat.le_of_ble_eq_true rfl) (Nat.zero_le _) (Nat.zero_le _) (fun r24 V24 p24 => ?_)
  obtain ⟨rfl, rfl⟩ := And.intro p24.1.symm p24.2
  refine k_laldP 27 28 C dX4_copies_27 rfl ‹_› (f := va_up (bgF f n) (hdC (n) (1)) (_)) (p16.2.2.2) (c0 := hdC (d) (2)) (by first | omega | (simp only [hdC, ceC]; omega)) ?_
  refine k_aload_n 28 29 C dX4_copies_28 rfl 1 rfl ?_
  refine k_getF 29 32 C dX4_copies_29 rfl ci_X4 0 fl_X4_7 (IsMdl.o ‹_›) (by decide) (IsMdl.f0 ‹_›) rfl ?_
  refine k_iconst 32 33 C dX4_copies_32 rfl (v := 0) rfl ?_
  refine k_laldP 33 34 C dX4_copies_33 rfl ‹_› (f := va_up (bgF f n) (hdC (n) (1)) (_)) (p16.2.2.2) (c0 := 0) (by first | omega | (simp only [hdC, ceC]; omega)) ?_
  refine k_lmul 34 35 C dX4_copies_34 rfl  ?_
  refine k_aload_n 35 36 C dX4_copies_35 rfl 1 rfl ?_
  refine k_getF 36 39 C dX4_copies_36 rfl ci_X4 0 fl_X4_7 (IsMdl.o ‹_›) (by decide) (IsMdl.f0 ‹_›) rfl ?_
  refine k_iload_n 39 40 C dX4_copies_39 rfl 2 rfl ?_
  refine k_iconst 40 41 C dX4_copies_40 rfl (v := 3) rfl ?_
  refine k_callSI 41 44 C [_, _] [_, _, _] dX4_copies_41 rfl (ct_X4_head (d := d) (k := 3)) mi_X4_head ml_X4_85 st_X4_head rfl rfl ⟨Nat.le_of_ble_eq_true rfl, Nat.le_of_ble_eq_true rfl⟩ (Nat.le_of_ble_eq_true rfl) (Nat.zero_le _) (Nat.zero_le _) (fun r41 V41 p41 => ?_)
  obtain ⟨rfl, rfl⟩ := And.intro p41.1.symm p41.2
  refine k_laldP 44 45 C dX4_copies_44 rfl ‹_› (f := va_up (bgF f n) (hdC (n) (1)) (_)) (p16.2.2.2) (c0 := hdC (d) (3)) (by first | omega | (simp only [hdC, ceC]; omega)) ?_
  refine k_aload_n 45 46 C dX4_copies_45 rfl 1 rfl ?_
  refine k_getF 46 49 C dX4_copies_46 rfl ci_X4 0 fl_X4_7 (IsMdl.o ‹_›) (by decide) (IsMdl.f0 ‹_›) rfl ?_
  refine k_iconst 49 50 C dX4_copies_49 rfl (v := 1) rfl ?_
  refine k_laldP 50 51 C dX4_copies_50 rfl ‹_› (f := va_up (bgF f n) (hdC (n) (1)) (_)) (p16.2.2.2) (c0 := 1) (by first | omega | (simp only [hdC, ceC]; omega)) ?_
  refine k_lmul 51 52 C dX4_copies_51 rfl  ?_
  refine k_callVV 52 55 C [_, _] [] dX4_copies_52 rfl (ct_X4_reduce hM) mi_X4_reduce ml_X4_53 im_X4_reduce se_X4_reduce ci_X4 (IsMdl.o ‹_›) rfl rfl ⟨Nat.le_of_ble_eq_true rfl, Nat.le_of_ble_eq_true rfl⟩ (Nat.le_of_ble_eq_true rfl) (Nat.zero_le _) (Nat.zero_le _) (fun V52 p52 => ?_)
  obtain ⟨g52, t52, u52⟩ := tl_all p52 (p16.2.2.2)
  refine k_aload_n 55 56 C dX4_copies_55 rfl 1 rfl ?_
  refine k_iload_n 56 57 C dX4_copies_56 rfl 0 rfl ?_
  refine k_iconst 57 58 C dX4_copies_57 rfl (v := 2) rfl ?_
  refine k_callSI 58 61 C [_, _] [_] dX4_copies_58 rfl (ct_X4_head (d := n) (k := 2)) mi_X4_head ml_X4_85 st_X4_head rfl rfl ⟨Nat.le_of_ble_eq_true rfl, Nat.le_of_ble_eq_true rfl⟩ (Nat.le_of_ble_eq_true rfl) (Nat.zero_le _) (Nat.zero_le _) (fun r58 V58 p58 => ?_)
  obtain ⟨rfl, rfl⟩ := And.intro p58.1.symm p58.2
  refine k_callVV 61 64 C [_] [] dX4_copies_61 rfl (ct_X4_put (k := hdC (n) (2)) (by first | omega | (simp only [hdC, ceC]; omega)) t52 u52 hM) mi_X4_put ml_X4_134 im_X4_put se_X4_put ci_X4 (IsMdl.o ‹_›) rfl rfl ⟨Nat.le_of_ble_eq_true rfl, Nat.le_of_ble_eq_true rfl⟩ (Nat.le_of_ble_eq_true rfl) (Nat.zero_le _) (Nat.zero_le _) (fun V61 p61 => ?_)
  have g61 := put_all p61 (g52.2.2.2)
  have zP2 : Pg V _ M (cp2 f n d) := ((((Pg.rf hf).trans zb1).trans p16).trans g52).trans g61
  refine k_aload_n 64 65 C dX4_copies_64 rfl 1 rfl ?_
  refine k_get 65 68 C dX4_copies_65 rfl ci_X4 6 fl_X4_46 (IsMdl.o ‹_›) (by decide) rfl ?_
  refine k_rwL (y := cpN f n d) (by rw [p61, wP_tl, wP_tl]; exact t52) ?_
  refine k_ldc2 68 71 C dX4_copies_68 rfl kl_X4_141 ?_
  refine k_lcmp_gt 71 72 90 75 C dX4_copies_71 rfl dX4_copies_72 (by decide) rfl (fun h72 => ?_) (fun h72 => ?_)
  · have zb : cpB0 f n d = false := by unfold cpB0; rw [decide_eq_false (p := ¬ 100000 < cpN f n d) (fun zz => zz h72)]; rfl
    refine k_iconst 90 91 C dX4_copies_90 rfl (v := 0) rfl ?_
    refine k_istore_n 91 92 C [(3, _), (2, _), (0, _), (1, _)] dX4_copies_91 rfl (by decide) rfl ?_
    first
      | exact loop92 _ _ true rfl (zP2) zb
      | exact loop92 _ _ false rfl (zP2) zb
  · refine k_aload_n 75 76 C dX4_copies_75 rfl 1 rfl ?_
    refine k_get 76 79 C dX4_copies_76 rfl ci_X4 7 fl_X4_50 (IsMdl.o ‹_›) (by decide) rfl ?_
    refine k_rwL (y := cpD f n d) (by rw [p61, wP_tl, wP_tl]; exact u52) ?_
    refine k_ldc2 79 82 C dX4_copies_79 rfl kl_X4_141 ?_
    refine k_lcmp_gt 82 83 90 86 C dX4_copies_82 rfl dX4_copies_83 (by decide) rfl (fun h83 => ?_) (fun h83 => ?_)
    · have zb : cpB0 f n d = false := by unfold cpB0; rw [decide_eq_false (p := ¬ 100000 < cpD f n d) (fun zz => zz h83), Bool.and_false]
      refine k_iconst 90 91 C dX4_copies_90 rfl (v := 0) rfl ?_
      refine k_istore_n 91 92 C [(3, _), (2, _), (0, _), (1, _)] dX4_copies_91 rfl (by decide) rfl ?_
      first
        | exact loop92 _ _ true rfl (zP2) zb
        | exact loop92 _ _ false rfl (zP2) zb
    · have zb : cpB0 f n d = true := by unfold cpB0; rw [decide_eq_true h72, decide_eq_true h83]; rfl
      refine k_iconst 86 87 C dX4_copies_86 rfl (v := 1) rfl ?_
      refine k_goto 87 91 C dX4_copies_87 (by decide) ?_
      refine k_istore_n 91 92 C [(3, _), (2, _), (0, _), (1, _)] dX4_copies_91 rfl (by decide) rfl ?_
      first
        | exact loop92 _ _ true rfl (zP2) zb
        | exact loop92 _ _ false rfl (zP2) zb
