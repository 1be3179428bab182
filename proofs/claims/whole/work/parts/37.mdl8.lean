def mlW (f : Nat → Int64) : Int64 := if 1 + f 9 / f 8 ≤ 9 then 1 + f 9 / f 8 else 9
def mlA (f : Nat → Int64) (d k : Nat) : Nat → Int64 := va_up f (ceC d k + 5) (mlW f)
def mlB (f : Nat → Int64) (d k : Nat) : Nat → Int64 := va_up (mlA f d k) (ceC d k + 6) (leN (mlA f d k) d k / leD (mlA f d k) d k).toInt32.toInt64
def mlG (f : Nat → Int64) (d k : Nat) : Nat → Int64 := va_up (mlB f d k) 9 (mlB f d k 9 + mlB f d k (ceC d k + 6))
def mlH (f : Nat → Int64) (d k : Nat) : Nat → Int64 := va_up (mlG f d k) 11 (mlG f d k 11 + 1)
def mlF (f : Nat → Int64) (d k : Nat) : Nat → Int64 := if onP f d k = true ∧ onP f d (k - 1) = true then va_up (mlH f d k) 12 (mlH f d k 12 + mlH f d k (ceC d k + 6)) else va_up f 13 (f 13 + 1)
def mlN (f : Nat → Int64) (d : Nat) : Nat → Int32 × Int32 × Int32
  | 0 => (0, 0, 0)
  | k + 1 => ((mlN f d k).1 + (if (f (ceC d k + 5)).toInt32 ≤ 0 then 0 else 1), (mlN f d k).2.1 + (f (ceC d k + 6)).toInt32, if (f (ceC d k + 5)).toInt32 ≤ (mlN f d k).2.2 then (mlN f d k).2.2 else (f (ceC d k + 5)).toInt32)
def mlR (f : Nat → Int64) (d z : Nat) (q : Int32) : Int32 := if q = 6 then (mlN f d z).1 else if q = 7 then (mlN f d z).2.1 else (mlN f d z).2.2
def obC (f : Nat → Int64) (d : Nat) : Nat → Int32
  | 0 => 0
  | k + 1 => obC f d k + (if onP f d k = true then 0 else 1)
set_option maxHeartbeats 4000000 in
set_option maxRecDepth 100000 in
theorem ct_X4_line {E : gE} {T : gT} {l : Launch} {V : gV} {d k M : Nat} {f : Nat → Int64} (hd : d ≤ 5) (hk : k < 20) (hk1 : 1 ≤ k) (hs : ¬ f 8 = 0) (hL : LnOK (mlA f d k) d k) (hM : IsMdl T M) (hf : PQ V M f) : CtV E T l yX4_line (gw yX4_line cX4_line 6 none) { frames := 5, cells := 0, slots := 0, locals := 136 } [.ref M, .int (nI d), .int (nI k)] V (fun (V' : gV) => Pg V V' M (mlF f d k)) := by
  refine ctV_of (L := [(0, .ref M), (1, .int (nI d)), (2, .int (nI k))]) (by decide) rfl (Nat.le_of_ble_eq_true rfl) rfl (fun p e s m args below meth c C => ?_)
  refine k_iload_n 0 1 C dX4_line_0 rfl 1 rfl ?_
  refine k_iload_n 1 2 C dX4_line_1 rfl 2 rfl ?_
  refine k_callSI 2 5 C [_, _] [] dX4_line_2 rfl (ct_X4_cellOf (d := d) (k := k)) mi_X4_cellOf ml_X4_104 st_X4_cellOf rfl rfl ⟨Nat.le_of_ble_eq_true rfl, Nat.le_of_ble_eq_true rfl⟩ (Nat.le_of_ble_eq_true rfl) (Nat.zero_le _) (Nat.zero_le _) (fun r2 V2 p2 => ?_)
  obtain ⟨rfl, rfl⟩ := And.intro p2.1.symm p2.2
  refine k_istore_n 5 6 C [(3, _), (0, _), (1, _), (2, _)] dX4_line_5 rfl (by decide) rfl ?_
  refine k_aload_n 6 7 C dX4_line_6 rfl 1 rfl ?_
  refine k_iload_n 7 8 C dX4_line_7 rfl 2 rfl ?_
  refine k_iload_n 8 9 C dX4_line_8 rfl 3 rfl ?_
  refine k_callVI 9 12 C [_, _] [] dX4_line_9 rfl (ct_X4_isOnBoard (d := d) (k := k) (by omega) (by omega) hM (hf)) mi_X4_isOnBoard ml_X4_138 im_X4_isOnBoard se_X4_isOnBoard ci_X4 (IsMdl.o ‹_›) rfl rfl ⟨Nat.le_of_ble_eq_true rfl, Nat.le_of_ble_eq_true rfl⟩ (Nat.le_of_ble_eq_true rfl) (Nat.zero_le _) (Nat.zero_le _) (fun r9 V9 p9 => ?_)
  obtain ⟨rfl, rfl⟩ := And.intro p9.1.symm p9.2
  refine k_ifb_eq 12 26 15 C dX4_line_12 (by decide) rfl (fun h12 => ?_) (fun h12 => ?_)
  · have zF : mlF f d k = va_up f 13 (f 13 + 1) := by unfold mlF; rw [if_neg (fun zz => h12 zz.1)]
    refine k_aload_n 26 27 C dX4_line_26 rfl 1 rfl ?_
    refine k_getF 27 30 C dX4_line_27 rfl ci_X4 0 fl_X4_7 (IsMdl.o ‹_›) (by decide) (IsMdl.f0 ‹_›) rfl ?_
    refine k_bipush 30 32 C dX4_line_30 rfl (v := 13) rfl ?_
    refine k_dup2 32 33 C dX4_line_32 rfl rfl rfl ?_
    refine k_laldP 33 34 C dX4_line_33 rfl ‹_› (f := f) (hf) (c0 := 13) (by first | omega | (simp only [hdC, ceC]; omega)) ?_
    refine k_lconst 34 35 C dX4_line_34 rfl (v := 1) rfl ?_
    refine k_ladd 35 36 C dX4_line_35 rfl  ?_
    refine k_lastP 36 37 C dX4_line_36 rfl ‹_› (f := f) (hf) (c0 := 13) (by first | omega | (simp only [hdC, ceC]; omega)) (fun V36 p36 => ?_)
    refine k_vret 37 C dX4_line_37 rfl ?_
    rw [zF]
    exact (Pg.rf hf).trans p36
  · refine k_aload_n 15 16 C dX4_line_15 rfl 1 rfl ?_
    refine k_iload_n 16 17 C dX4_line_16 rfl 2 rfl ?_
    refine k_iload_n 17 18 C dX4_line_17 rfl 3 rfl ?_
    refine k_iconst 18 19 C dX4_line_18 rfl (v := 1) rfl ?_
    refine k_isub 19 20 C dX4_line_19 rfl  ?_
    refine k_rwI (y := nI (k - 1)) (pk_sub (a := k) (b := 1) (by first | omega | (simp only [hdC, ceC]; omega))) ?_
    refine k_callVI 20 23 C [_, _] [] dX4_line_20 rfl (ct_X4_isOnBoard (d := d) (k := k - 1) (by omega) (by omega) hM (hf)) mi_X4_isOnBoard ml_X4_138 im_X4_isOnBoard se_X4_isOnBoard ci_X4 (IsMdl.o ‹_›) rfl rfl ⟨Nat.le_of_ble_eq_true rfl, Nat.le_of_ble_eq_true rfl⟩ (Nat.le_of_ble_eq_true rfl) (Nat.zero_le _) (Nat.zero_le _) (fun r20 V20 p20 => ?_)
    obtain ⟨rfl, rfl⟩ := And.intro p20.1.symm p20.2
    refine k_ifb_ne 23 38 26 C dX4_line_23 (by decide) rfl (fun h23 => ?_) (fun h23 => ?_)
    · have zF : mlF f d k = va_up (mlH f d k) 12 (mlH f d k 12 + mlH f d k (ceC d k + 6)) := by unfold mlF; rw [if_pos ⟨h12, h23⟩]
      refine k_lconst 38 39 C dX4_line_38 rfl (v := 1) rfl ?_
      refine k_aload_n 39 40 C dX4_line_39 rfl 1 rfl ?_
      refine k_getF 40 43 C dX4_line_40 rfl ci_X4 0 fl_X4_7 (IsMdl.o ‹_›) (by decide) (IsMdl.f0 ‹_›) rfl ?_
      refine k_bipush 43 45 C dX4_line_43 rfl (v := 9) rfl ?_
      refine k_laldP 45 46 C dX4_line_45 rfl ‹_› (f := f) (hf) (c0 := 9) (by first | omega | (simp only [hdC, ceC]; omega)) ?_
      refine k_aload_n 46 47 C dX4_line_46 rfl 1 rfl ?_
      refine k_getF 47 50 C dX4_line_47 rfl ci_X4 0 fl_X4_7 (IsMdl.o ‹_›) (by decide) (IsMdl.f0 ‹_›) rfl ?_
      refine k_bipush 50 52 C dX4_line_50 rfl (v := 8) rfl ?_
      refine k_laldP 52 53 C dX4_line_52 rfl ‹_› (f := f) (hf) (c0 := 8) (by first | omega | (simp only [hdC, ceC]; omega)) ?_
      refine k_ldiv 53 54 C dX4_line_53 rfl hs ?_
      refine k_ladd 54 55 C dX4_line_54 rfl  ?_
      refine k_lstore 55 57 C [(4, _), (3, _), (0, _), (1, _), (2, _)] dX4_line_55 rfl (by decide) rfl ?_
      refine k_aload_n 57 58 C dX4_line_57 rfl 2 rfl ?_
      refine k_getF 58 61 C dX4_line_58 rfl ci_X4 0 fl_X4_7 (IsMdl.o ‹_›) (by decide) (IsMdl.f0 ‹_›) rfl ?_
      refine k_iload_n 61 62 C dX4_line_61 rfl 1 rfl ?_
      refine k_iconst 62 63 C dX4_line_62 rfl (v := 5) rfl ?_
      refine k_iadd 63 64 C dX4_line_63 rfl  ?_
      refine k_rwI (y := nI ((ceC (d) (k)) + (5))) (nI_add (ceC (d) (k)) (5)) ?_
      refine k_lload 64 66 C dX4_line_64 rfl 0 rfl ?_
      refine k_ldc2 66 69 C dX4_line_66 rfl kl_X4_73 ?_
      refine k_lcmp_le 69 70 79 73 C dX4_line_69 rfl dX4_line_70 (by decide) rfl (fun h70 => ?_) (fun h70 => ?_)
      · have zW : 1 + f 9 / f 8 = mlW f := by unfold mlW; rw [if_pos h70]
        refine k_lload 79 81 C dX4_line_79 rfl 0 rfl ?_
        refine k_rwL zW ?_
        refine k_lastP 81 82 C dX4_line_81 rfl ‹_› (f := f) (hf) (c0 := (ceC (d) (k)) + (5)) (by first | omega | (simp only [hdC, ceC]; omega)) (fun V81 p81 => ?_)
        refine k_aload_n 82 83 C dX4_line_82 rfl 2 rfl ?_
        refine k_getF 83 86 C dX4_line_83 rfl ci_X4 0 fl_X4_7 (IsMdl.o ‹_›) (by decide) (IsMdl.f0 ‹_›) rfl ?_
        refine k_iload_n 86 87 C dX4_line_86 rfl 1 rfl ?_
        refine k_bipush 87 89 C dX4_line_87 rfl (v := 6) rfl ?_
        refine k_iadd 89 90 C dX4_line_89 rfl  ?_
        refine k_rwI (y := nI ((ceC (d) (k)) + (6))) (nI_add (ceC (d) (k)) (6)) ?_
        refine k_aload_n 90 91 C dX4_line_90 rfl 2 rfl ?_
        refine k_iload_n 91 92 C dX4_line_91 rfl 3 rfl ?_
        refine k_iload_n 92 93 C dX4_line_92 rfl 4 rfl ?_
        refine k_callVI 93 96 C [_, _] [_, _] dX4_line_93 rfl (ct_X4_lengthTo hd hk hk1 hM (p81.2.2.2) hL) mi_X4_lengthTo ml_X4_111 im_X4_lengthTo se_X4_lengthTo ci_X4 (IsMdl.o ‹_›) rfl rfl ⟨Nat.le_of_ble_eq_true rfl, Nat.le_of_ble_eq_true rfl⟩ (Nat.le_of_ble_eq_true rfl) (Nat.zero_le _) (Nat.zero_le _) (fun r93 V93 p93 => ?_)
        obtain ⟨zg, rfl⟩ := p93
        have p93 := And.intro zg True.intro
        refine k_i2l 96 97 C dX4_line_96 rfl  ?_
        refine k_lastP 97 98 C dX4_line_97 rfl ‹_› (f := va_up (f) ((ceC (d) (k)) + (5)) (_)) (p93.1.2.2.2) (c0 := (ceC (d) (k)) + (6)) (by first | omega | (simp only [hdC, ceC]; omega)) (fun V97 p97 => ?_)
        refine k_aload_n 98 99 C dX4_line_98 rfl 2 rfl ?_
        refine k_getF 99 102 C dX4_line_99 rfl ci_X4 0 fl_X4_7 (IsMdl.o ‹_›) (by decide) (IsMdl.f0 ‹_›) rfl ?_
        refine k_bipush 102 104 C dX4_line_102 rfl (v := 9) rfl ?_
        refine k_dup2 104 105 C dX4_line_104 rfl rfl rfl ?_
        refine k_laldP 105 106 C dX4_line_105 rfl ‹_› (f := va_up (va_up (f) ((ceC (d) (k)) + (5)) (_)) ((ceC (d) (k)) + (6)) (_)) (p97.2.2.2) (c0 := 9) (by first | omega | (simp only [hdC, ceC]; omega)) ?_
        refine k_aload_n 106 107 C dX4_line_106 rfl 2 rfl ?_
        refine k_getF 107 110 C dX4_line_107 rfl ci_X4 0 fl_X4_7 (IsMdl.o ‹_›) (by decide) (IsMdl.f0 ‹_›) rfl ?_
        refine k_iload_n 110 111 C dX4_line_110 rfl 1 rfl ?_
        refine k_bipush 111 113 C dX4_line_111 rfl (v := 6) rfl ?_
        refine k_iadd 113 114 C dX4_line_113 rfl  ?_
        refine k_rwI (y := nI ((ceC (d) (k)) + (6))) (nI_add (ceC (d) (k)) (6)) ?_
        refine k_laldP 114 115 C dX4_line_114 rfl ‹_› (f := va_up (va_up (f) ((ceC (d) (k)) + (5)) (_)) ((ceC (d) (k)) + (6)) (_)) (p97.2.2.2) (c0 := (ceC (d) (k)) + (6)) (by first | omega | (simp only [hdC, ceC]; omega)) ?_
        refine k_ladd 115 116 C dX4_line_115 rfl  ?_
        refine k_lastP 116 117 C dX4_line_116 rfl ‹_› (f := va_up (va_up (f) ((ceC (d) (k)) + (5)) (_)) ((ceC (d) (k)) + (6)) (_)) (p97.2.2.2) (c0 := 9) (by first | omega | (simp only [hdC, ceC]; omega)) (fun V116 p116 => ?_)
        refine k_aload_n 117 118 C dX4_line_117 rfl 2 rfl ?_
        refine k_getF 118 121 C dX4_line_118 rfl ci_X4 0 fl_X4_7 (IsMdl.o ‹_›) (by decide) (IsMdl.f0 ‹_›) rfl ?_
        refine k_bipush 121 123 C dX4_line_121 rfl (v := 11) rfl ?_
        refine k_dup2 123 124 C dX4_line_123 rfl rfl rfl ?_
        refine k_laldP 124 125 C dX4_line_124 rfl ‹_› (f := va_up (va_up (va_up (f) ((ceC (d) (k)) + (5)) (_)) ((ceC (d) (k)) + (6)) (_)) (9) (_)) (p116.2.2.2) (c0 := 11) (by first | omega | (simp only [hdC, ceC]; omega)) ?_
        refine k_lconst 125 126 C dX4_line_125 rfl (v := 1) rfl ?_
        refine k_ladd 126 127 C dX4_line_126 rfl  ?_
        refine k_lastP 127 128 C dX4_line_127 rfl ‹_› (f := va_up (va_up (va_up (f) ((ceC (d) (k)) + (5)) (_)) ((ceC (d) (k)) + (6)) (_)) (9) (_)) (p116.2.2.2) (c0 := 11) (by first | omega | (simp only [hdC, ceC]; omega)) (fun V127 p127 => ?_)
        refine k_aload_n 128 129 C dX4_line_128 rfl 2 rfl ?_
        refine k_getF 129 132 C dX4_line_129 rfl ci_X4 0 fl_X4_7 (IsMdl.o ‹_›) (by decide) (IsMdl.f0 ‹_›) rfl ?_
        refine k_bipush 132 134 C dX4_line_132 rfl (v := 12) rfl ?_
        refine k_dup2 134 135 C dX4_line_134 rfl rfl rfl ?_
        refine k_laldP 135 136 C dX4_line_135 rfl ‹_› (f := va_up (va_up (va_up (va_up (f) ((ceC (d) (k)) + (5)) (_)) ((ceC (d) (k)) + (6)) (_)) (9) (_)) (11) (_)) (p127.2.2.2) (c0 := 12) (by first | omega | (simp only [hdC, ceC]; omega)) ?_
        refine k_aload_n 136 137 C dX4_line_136 rfl 2 rfl ?_
        refine k_getF 137 140 C dX4_line_137 rfl ci_X4 0 fl_X4_7 (IsMdl.o ‹_›) (by decide) (IsMdl.f0 ‹_›) rfl ?_
        refine k_iload_n 140 141 C dX4_line_140 rfl 1 rfl ?_
        refine k_bipush 141 143 C dX4_line_141 rfl (v := 6) rfl ?_
        refine k_iadd 143 144 C dX4_line_143 rfl  ?_
        refine k_rwI (y := nI ((ceC (d) (k)) + (6))) (nI_add (ceC (d) (k)) (6)) ?_
        refine k_laldP 144 145 C dX4_line_144 rfl ‹_› (f := va_up (va_up (va_up (va_up (f) ((ceC (d) (k)) + (5)) (_)) ((ceC (d) (k)) + (6)) (_)) (9) (_)) (11) (_)) (p127.2.2.2) (c0 := (ceC (d) (k)) + (6)) (by first | omega | (simp only [hdC, ceC]; omega)) ?_
        refine k_ladd 145 146 C dX4_line_145 rfl  ?_
        refine k_lastP 146 147 C dX4_line_146 rfl ‹_› (f := va_up (va_up (va_up (va_up (f) ((ceC (d) (k)) + (5)) (_)) ((ceC (d) (k)) + (6)) (_)) (9) (_)) (11) (_)) (p127.2.2.2) (c0 := 12) (by first | omega | (simp only [hdC, ceC]; omega)) (fun V146 p146 => ?_)
        refine k_vret 147 C dX4_line_147 rfl ?_
        rw [zF]
        exact ((((((Pg.rf hf).trans p81).trans p93.1).trans p97).trans p116).trans p127).trans p146
      · have zW : 9 = mlW f := by unfold mlW; rw [if_neg h70]
        refine k_ldc2 73 76 C dX4_line_73 rfl kl_X4_73 ?_
        refine k_rwL zW ?_
        refine k_goto 76 81 C dX4_line_76 (by decide) ?_
        refine k_lastP 81 82 C dX4_line_81 rfl ‹_› (f := f) (hf) (c0 := (ceC (d) (k)) + (5)) (by first | omega | (simp only [hdC, ceC]; omega)) (fun V81 p81 => ?_)
        refine k_aload_n 82 83 C dX4_line_82 rfl 2 rfl ?_
        refine k_getF 83 86 C dX4_line_83 rfl ci_X4 0 fl_X4_7 (IsMdl.o ‹_›) (by decide) (IsMdl.f0 ‹_›) rfl ?_
        refine k_iload_n 86 87 C dX4_line_86 rfl 1 rfl ?_
        refine k_bipush 87 89 C dX4_line_87 rfl (v := 6) rfl ?_
        refine k_iadd 89 90 C dX4_line_89 rfl  ?_
        refine k_rwI (y := nI ((ceC (d) (k)) + (6))) (nI_add (ceC (d) (k)) (6)) ?_
        refine k_aload_n 90 91 C dX4_line_90 rfl 2 rfl ?_
        refine k_iload_n 91 92 C dX4_line_91 rfl 3 rfl ?_
        refine k_iload_n 92 93 C dX4_line_92 rfl 4 rfl ?_
        refine k_callVI 93 96 C [_, _] [_, _] dX4_line_93 rfl (ct_X4_lengthTo hd hk hk1 hM (p81.2.2.2) hL) mi_X4_lengthTo ml_X4_111 im_X4_lengthTo se_X4_lengthTo ci_X4 (IsMdl.o ‹_›) rfl rfl ⟨Nat.le_of_ble_eq_true rfl, Nat.le_of_ble_eq_true rfl⟩ (Nat.le_of_ble_eq_true rfl) (Nat.zero_le _) (Nat.zero_le _) (fun r93 V93 p93 => ?_)
        obtain ⟨zg, rfl⟩ := p93
        have p93 := And.intro zg True.intro
        refine k_i2l 96 97 C dX4_line_96 rfl  ?_
        refine k_lastP 97 98 C dX4_line_97 rfl ‹_› (f := va_up (f) ((ceC (d) (k)) + (5)) (_)) (p93.1.2.2.2) (c0 := (ceC (d) (k)) + (6)) (by first | omega | (simp only [hdC, ceC]; omega)) (fun V97 p97 => ?_)
        refine k_aload_n 98 99 C dX4_line_98 rfl 2 rfl ?_
        refine k_getF 99 102 C dX4_line_99 rfl ci_X4 0 fl_X4_7 (IsMdl.o ‹_›) (by decide) (IsMdl.f0 ‹_›) rfl ?_
        refine k_bipush 102 104 C dX4_line_102 rfl (v := 9) rfl ?_
        refine k_dup2 104 105 C dX4_line_104 rfl rfl rfl ?_
        refine k_laldP 105 106 C dX4_line_105 rfl ‹_› (f := va_up (va_up (f) ((ceC (d) (k)) + (5)) (_)) ((ceC (d) (k)) + (6)) (_)) (p97.2.2.2) (c0 := 9) (by first | omega | (simp only [hdC, ceC]; omega)) ?_
        refine k_aload_n 106 107 C dX4_line_106 rfl 2 rfl ?_
        refine k_getF 107 110 C dX4_line_107 rfl ci_X4 0 fl_X4_7 (IsMdl.o ‹_›) (by decide) (IsMdl.f0 ‹_›) rfl ?_
        refine k_iload_n 110 111 C dX4_line_110 rfl 1 rfl ?_
        refine k_bipush 111 113 C dX4_line_111 rfl (v := 6) rfl ?_
        refine k_iadd 113 114 C dX4_line_113 rfl  ?_
        refine k_rwI (y := nI ((ceC (d) (k)) + (6))) (nI_add (ceC (d) (k)) (6)) ?_
        refine k_laldP 114 115 C dX4_line_114 rfl ‹_› (f := va_up (va_up (f) ((ceC (d) (k)) + (5)) (_)) ((ceC (d) (k)) + (6)) (_)) (p97.2.2.2) (c0 := (ceC (d) (k)) + (6)) (by first | omega | (simp only [hdC, ceC]; omega)) ?_
        refine k_ladd 115 116 C dX4_line_115 rfl  ?_
        refine k_lastP 116 117 C dX4_line_116 rfl ‹_› (f := va_up (va_up (f) ((ceC (d) (k)) + (5)) (_)) ((ceC (d) (k)) + (6)) (_)) (p97.2.2.2) (c0 := 9) (by first | omega | (simp only [hdC, ceC]; omega)) (fun V116 p116 => ?_)
        refine k_aload_n 117 118 C dX4_line_117 rfl 2 rfl ?_
        refine k_getF 118 121 C dX4_line_118 rfl ci_X4 0 fl_X4_7 (IsMdl.o ‹_›) (by decide) (IsMdl.f0 ‹_›) rfl ?_
        refine k_bipush 121 123 C dX4_line_121 rfl (v := 11) rfl ?_
        refine k_dup2 123 124 C dX4_line_123 rfl rfl rfl ?_
        refine k_laldP 124 125 C dX4_line_124 rfl ‹_› (f := va_up (va_up (va_up (f) ((ceC (d) (k)) + (5)) (_)) ((ceC (d) (k)) + (6)) (_)) (9) (_)) (p116.2.2.2) (c0 := 11) (by first | omega | (simp only [hdC, ceC]; omega)) ?_
        refine k_lconst 125 126 C dX4_line_125 rfl (v := 1) rfl ?_
        refine k_ladd 126 127 C dX4_line_126 rfl  ?_
        refine k_lastP 127 128 C dX4_line_127 rfl ‹_› (f := va_up (va_up (va_up (f) ((ceC (d) (k)) + (5)) (_)) ((ceC (d) (k)) + (6)) (_)) (9) (_)) (p116.2.2.2) (c0 := 11) (by first | omega | (simp only [hdC, ceC]; omega)) (fun V127 p127 => ?_)
        refine k_aload_n 128 129 C dX4_line_128 rfl 2 rfl ?_
        refine k_getF 129 132 C dX4_line_129 rfl ci_X4 0 fl_X4_7 (IsMdl.o ‹_›) (by decide) (IsMdl.f0 ‹_›) rfl ?_
        refine k_bipush 132 134 C dX4_line_132 rfl (v := 12) rfl ?_
        refine k_dup2 134 135 C dX4_line_134 rfl rfl rfl ?_
        refine k_laldP 135 136 C dX4_line_135 rfl ‹_› (f := va_up (va_up (va_up (va_up (f) ((ceC (d) (k)) + (5)) (_)) ((ceC (d) (k)) + (6)) (_)) (9) (_)) (11) (_)) (p127.2.2.2) (c0 := 12) (by first | omega | (simp only [hdC, ceC]; omega)) ?_
        refine k_aload_n 136 137 C dX4_line_136 rfl 2 rfl ?_
        refine k_getF 137 140 C dX4_line_137 rfl ci_X4 0 fl_X4_7 (IsMdl.o ‹_›) (by decide) (IsMdl.f0 ‹_›) rfl ?_
        refine k_iload_n 140 141 C dX4_line_140 rfl 1 rfl ?_
        refine k_bipush 141 143 C dX4_line_141 rfl (v := 6) rfl ?_
        refine k_iadd 143 144 C dX4_line_143 rfl  ?_
        refine k_rwI (y := nI ((ceC (d) (k)) + (6))) (nI_add (ceC (d) (k)) (6)) ?_
        refine k_laldP 144 145 C dX4_line_144 rfl ‹_› (f := va_up (va_up (va_up (va_up (f) ((ceC (d) (k)) + (5)) (_)) ((ceC (d) (k)) + (6)) (_)) (9) (_)) (11) (_)) (p127.2.2.2) (c0 := (ceC (d) (k)) + (6)) (by first | omega | (simp only [hdC, ceC]; omega)) ?_
        refine k_ladd 145 146 C dX4_line_145 rfl  ?_
        refine k_lastP 146 147 C dX4_line_146 rfl ‹_› (f := va_up (va_up (va_up (va_up (f) ((ceC (d) (k)) + (5)) (_)) ((ceC (d) (k)) + (6)) (_)) (9) (_)) (11) (_)) (p127.2.2.2) (c0 := 12) (by first | omega | (simp only [hdC, ceC]; omega)) (fun V146 p146 => ?_)
        refine k_vret 147 C dX4_line_147 rfl ?_
        rw [zF]
        exact ((((((Pg.rf hf).trans p81).trans p93.1).trans p97).trans p116).trans p127).trans p146
    · have zF : mlF f d k = va_up f 13 (f 13 + 1) := by unfold mlF; rw [if_neg (fun zz => h23 zz.2)]
      refine k_aload_n 26 27 C dX4_line_26 rfl 1 rfl ?_
      refine k_getF 27 30 C dX4_line_27 rfl ci_X4 0 fl_X4_7 (IsMdl.o ‹_›) (by decide) (IsMdl.f0 ‹_›) rfl ?_
      refine k_bipush 30 32 C dX4_line_30 rfl (v := 13) rfl ?_
      refine k_dup2 32 33 C dX4_line_32 rfl rfl rfl ?_
      refine k_laldP 33 34 C dX4_line_33 rfl ‹_› (f := f) (hf) (c0 := 13) (by first | omega | (simp only [hdC, ceC]; omega)) ?_
      refine k_lconst 34 35 C dX4_line_34 rfl (v := 1) rfl ?_
      refine k_ladd 35 36 C dX4_line_35 rfl  ?_
      refine k_lastP 36 37 C dX4_line_36 rfl ‹_› (f := f) (hf) (c0 := 13) (by first | omega | (simp only [hdC, ceC]; omega)) (fun V36 p36 => ?_)
      refine k_vret 37 C dX4_line_37 rfl ?_
      rw [zF]
      exact (Pg.rf hf).trans p36
set_option maxHeartbeats 4000000 in
set_option maxRecDepth 100000 in
theorem ct_X4_lines {E : gE} {T : gT} {l : Launch} {V : gV} {d z M : Nat} {q : Int32} {f : Nat → Int64} (hd : d ≤ 5) (hz : z ≤ 20) (hp : f (hdC d 0) = lN z) (hM : IsMdl T M) (hf : PQ V M f) : CtI E T l yX4_lines (gw yX4_lines cX4_lines 8 (some .int)) { frames := 2, cells := 0, slots := 0, locals := 42 } [.ref M, .int (nI d), .int q] V (fun (r : Int32) (V' : gV) => V' = V ∧ r = mlR f d z q) := by
  refine ctI_of (L := [(0, .ref M), (1, .int (nI d)), (2, .int q)]) (by decide) rfl (Nat.le_of_ble_eq_true rfl) rfl (fun p e s m args below meth c C => ?_)
  have loop11 : ∀ (zf : Nat) (k : Nat) (u1 u2 u3 : Int32), z - k = zf → (k ≤ z) → (mlN f d k = (u1, u2, u3)) → KW E T V p l e { frames := 2, cells := 0, slots := 0, locals := 42 } s m args below meth c 8 0 0 (MQ below (va_Qi (fun (r : Int32) (V' : gV) => V' = V ∧ r = mlR f d z q) (RepS E T) (gA E)) args s 0 0 (gA E)) 11 [(6, .int (nI k)), (5, .int u3), (4, .int u2), (3, .int u1), (0, .ref M), (1, .int (nI d)), (2, .int q)] [] := by
    intro zf
    induction zf using Nat.strongRecOn with
    | _ zf ih =>
    intro k u1 u2 u3 zhf hk hg
    refine k_iload 11 13 C dX4_lines_11 rfl 0 rfl ?_
    refine k_aload_n 13 14 C dX4_lines_13 rfl 4 rfl ?_
    refine k_iload_n 14 15 C dX4_lines_14 rfl 5 rfl ?_
    refine k_callVI 15 18 C [_] [_] dX4_lines_15 rfl (ct_X4_points hd hM hf) mi_X4_points ml_X4_93 im_X4_points se_X4_points ci_X4 (IsMdl.o ‹_›) rfl rfl ⟨Nat.le_of_ble_eq_true rfl, Nat.le_of_ble_eq_true rfl⟩ (Nat.le_of_ble_eq_true rfl) (Nat.zero_le _) (Nat.zero_le _) (fun r15 V15 p15 => ?_)
    obtain ⟨rfl, rfl⟩ := And.intro p15.1.symm p15.2
    refine k_rwI (y := nI z) (by rw [hp]; exact lN_i _) ?_
    refine k_icmp_ge 18 88 21 C dX4_lines_18 (by decide) rfl (fun h18 => ?_) (fun h18 => ?_)
    · have z0 : nI z ≤ nI k := h18
      rw [n1k (by omega) (by omega)] at z0
      obtain rfl : k = z := by omega
      refine k_iload_n 88 89 C dX4_lines_88 rfl 6 rfl ?_
      refine k_bipush 89 91 C dX4_lines_89 rfl (v := 6) rfl ?_
      refine k_icmp_ne 91 98 94 C dX4_lines_91 (by decide) rfl (fun h91 => ?_) (fun h91 => ?_)
      · refine k_iload_n 98 99 C dX4_lines_98 rfl 6 rfl ?_
        refine k_bipush 99 101 C dX4_lines_99 rfl (v := 7) rfl ?_
        refine k_icmp_ne 101 109 104 C dX4_lines_101 (by decide) rfl (fun h101 => ?_) (fun h101 => ?_)
        · have zr : mlR f d k q = u3 := by unfold mlR; rw [if_neg h91, if_neg h101, hg]
          refine k_iload 109 111 C dX4_lines_109 rfl 1 rfl ?_
          refine k_iret 111 C dX4_lines_111 rfl ?_
          exact ⟨rfl, zr.symm⟩
        · have zr : mlR f d k q = u2 := by unfold mlR; rw [if_neg h91, if_pos h101, hg]
          refine k_iload 104 106 C dX4_lines_104 rfl 2 rfl ?_
          refine k_goto 106 111 C dX4_lines_106 (by decide) ?_
          refine k_iret 111 C dX4_lines_111 rfl ?_
          exact ⟨rfl, zr.symm⟩
      · have zr : mlR f d k q = u1 := by unfold mlR; rw [if_pos h91, hg]
        refine k_iload_n 94 95 C dX4_lines_94 rfl 3 rfl ?_
        refine k_goto 95 111 C dX4_lines_95 (by decide) ?_
        refine k_iret 111 C dX4_lines_111 rfl ?_
        exact ⟨rfl, zr.symm⟩
    · have z0 : ¬ nI z ≤ nI k := h18
      rw [n1k (by omega) (by omega)] at z0
      refine k_aload_n 21 22 C dX4_lines_21 rfl 4 rfl ?_
      refine k_iload_n 22 23 C dX4_lines_22 rfl 5 rfl ?_
      refine k_iload 23 25 C dX4_lines_23 rfl 0 rfl ?_
      refine k_callSI 25 28 C [_, _] [_] dX4_lines_25 rfl (ct_X4_cellOf (d := d) (k := k)) mi_X4_cellOf ml_X4_104 st_X4_cellOf rfl rfl ⟨Nat.le_of_ble_eq_true rfl, Nat.le_of_ble_eq_true rfl⟩ (Nat.le_of_ble_eq_true rfl) (Nat.zero_le _) (Nat.zero_le _) (fun r25 V25 p25 => ?_)
      obtain ⟨rfl, rfl⟩ := And.intro p25.1.symm p25.2
      refine k_iconst 28 29 C dX4_lines_28 rfl (v := 5) rfl ?_
      refine k_iadd 29 30 C dX4_lines_29 rfl  ?_
      refine k_rwI (y := nI ((ceC (d) (k)) + (5))) (nI_add (ceC (d) (k)) (5)) ?_
      refine k_callVI 30 33 C [_] [] dX4_lines_30 rfl (ct_X4_of (k := (ceC (d) (k)) + (5)) (by first | omega | (simp only [hdC, ceC]; omega)) hM (hf)) mi_X4_of ml_X4_65 im_X4_of se_X4_of ci_X4 (IsMdl.o ‹_›) rfl rfl ⟨Nat.le_of_ble_eq_true rfl, Nat.le_of_ble_eq_true rfl⟩ (Nat.le_of_ble_eq_true rfl) (Nat.zero_le _) (Nat.zero_le _) (fun r30 V30 p30 => ?_)
      obtain ⟨rfl, rfl⟩ := And.intro p30.1.symm p30.2
      refine k_istore 33 35 C [(7, _), (6, _), (5, _), (4, _), (3, _), (0, _), (1, _), (2, _)] dX4_lines_33 rfl (by decide) rfl ?_
      refine k_iload_n 35 36 C dX4_lines_35 rfl 4 rfl ?_
      refine k_iload 36 38 C dX4_lines_36 rfl 0 rfl ?_
      refine k_if_le 38 45 41 C dX4_lines_38 (by decide) rfl (fun h38 => ?_) (fun h38 => ?_)
      · have z38 : (if (f (ceC d k + 5)).toInt32 ≤ 0 then (0 : Int32) else 1) = 0 := if_pos h38
        refine k_iconst 45 46 C dX4_lines_45 rfl (v := 0) rfl ?_
        refine k_iadd 46 47 C dX4_lines_46 rfl  ?_
        refine k_istore_n 47 48 C [(3, _), (7, _), (6, _), (5, _), (4, _), (0, _), (1, _), (2, _)] dX4_lines_47 rfl (by decide) rfl ?_
        refine k_iload 48 50 C dX4_lines_48 rfl 4 rfl ?_
        refine k_aload_n 50 51 C dX4_lines_50 rfl 5 rfl ?_
        refine k_iload_n 51 52 C dX4_lines_51 rfl 6 rfl ?_
        refine k_iload 52 54 C dX4_lines_52 rfl 2 rfl ?_
        refine k_callSI 54 57 C [_, _] [_, _] dX4_lines_54 rfl (ct_X4_cellOf (d := d) (k := k)) mi_X4_cellOf ml_X4_104 st_X4_cellOf rfl rfl ⟨Nat.le_of_ble_eq_true rfl, Nat.le_of_ble_eq_true rfl⟩ (Nat.le_of_ble_eq_true rfl) (Nat.zero_le _) (Nat.zero_le _) (fun r54 V54 p54 => ?_)
        obtain ⟨rfl, rfl⟩ := And.intro p54.1.symm p54.2
        refine k_bipush 57 59 C dX4_lines_57 rfl (v := 6) rfl ?_
        refine k_iadd 59 60 C dX4_lines_59 rfl  ?_
        refine k_rwI (y := nI ((ceC (d) (k)) + (6))) (nI_add (ceC (d) (k)) (6)) ?_
        refine k_callVI 60 63 C [_] [_] dX4_lines_60 rfl (ct_X4_of (k := (ceC (d) (k)) + (6)) (by first | omega | (simp only [hdC, ceC]; omega)) hM (hf)) mi_X4_of ml_X4_65 im_X4_of se_X4_of ci_X4 (IsMdl.o ‹_›) rfl rfl ⟨Nat.le_of_ble_eq_true rfl, Nat.le_of_ble_eq_true rfl⟩ (Nat.le_of_ble_eq_true rfl) (Nat.zero_le _) (Nat.zero_le _) (fun r60 V60 p60 => ?_)
        obtain ⟨rfl, rfl⟩ := And.intro p60.1.symm p60.2
        refine k_iadd 63 64 C dX4_lines_63 rfl  ?_
        refine k_istore 64 66 C [(4, _), (3, _), (7, _), (6, _), (5, _), (0, _), (1, _), (2, _)] dX4_lines_64 rfl (by decide) rfl ?_
        refine k_iload 66 68 C dX4_lines_66 rfl 2 rfl ?_
        refine k_iload 68 70 C dX4_lines_68 rfl 4 rfl ?_
        refine k_icmp_le 70 78 73 C dX4_lines_70 (by decide) rfl (fun h70 => ?_) (fun h70 => ?_)
        · have z70 : (if (f (ceC d k + 5)).toInt32 ≤ u3 then u3 else (f (ceC d k + 5)).toInt32) = u3 := if_pos h70
          refine k_iload 78 80 C dX4_lines_78 rfl 4 rfl ?_
          refine k_istore 80 82 C [(5, _), (4, _), (3, _), (7, _), (6, _), (0, _), (1, _), (2, _)] dX4_lines_80 rfl (by decide) rfl ?_
          refine k_iinc 82 85 C [(6, _), (5, _), (4, _), (3, _), (7, _), (0, _), (1, _), (2, _)] (nI (k + 1)) dX4_lines_82 rfl 4 rfl (nI_1 (k)) (by decide) rfl ?_
          refine k_goto 85 11 C dX4_lines_85 (by decide) ?_
          refine k_perm [0, 1, 2, 3, 5, 6, 7] (L' := [(6, _), (5, _), (4, _), (3, _), (0, _), (1, _), (2, _)]) rfl ?_
          exact ih (z - (k + 1)) (by omega) (k + 1) _ _ _ rfl (by omega) (by simp only [mlN, hg, z38, z70])
        · have z70 : (if (f (ceC d k + 5)).toInt32 ≤ u3 then u3 else (f (ceC d k + 5)).toInt32) = (f (ceC d k + 5)).toInt32 := if_neg h70
          refine k_iload 73 75 C dX4_lines_73 rfl 2 rfl ?_
          refine k_goto 75 80 C dX4_lines_75 (by decide) ?_
          refine k_istore 80 82 C [(5, _), (4, _), (3, _), (7, _), (6, _), (0, _), (1, _), (2, _)] dX4_lines_80 rfl (by decide) rfl ?_
          refine k_iinc 82 85 C [(6, _), (5, _), (4, _), (3, _), (7, _), (0, _), (1, _), (2, _)] (nI (k + 1)) dX4_lines_82 rfl 4 rfl (nI_1 (k)) (by decide) rfl ?_
          refine k_goto 85 11 C dX4_lines_85 (by decide) ?_
          refine k_perm [0, 1, 2, 3, 5, 6, 7] (L' := [(6, _), (5, _), (4, _), (3, _), (0, _), (1, _), (2, _)]) rfl ?_
          exact ih (z - (k + 1)) (by omega) (k + 1) _ _ _ rfl (by omega) (by simp only [mlN, hg, z38, z70])
      · have z38 : (if (f (ceC d k + 5)).toInt32 ≤ 0 then (0 : Int32) else 1) = 1 := if_neg h38
        refine k_iconst 41 42 C dX4_lines_41 rfl (v := 1) rfl ?_
        refine k_goto 42 46 C dX4_lines_42 (by decide) ?_
        refine k_iadd 46 47 C dX4_lines_46 rfl  ?_
        refine k_istore_n 47 48 C [(3, _), (7, _), (6, _), (5, _), (4, _), (0, _), (1, _), (2, _)] dX4_lines_47 rfl (by decide) rfl ?_
        refine k_iload 48 50 C dX4_lines_48 rfl 4 rfl ?_
        refine k_aload_n 50 51 C dX4_lines_50 rfl 5 rfl ?_
        refine k_iload_n 51 52 C dX4_lines_51 rfl 6 rfl ?_
        refine k_iload 52 54 C dX4_lines_52 rfl 2 rfl ?_
        refine k_callSI 54 57 C [_, _] [_, _] dX4_lines_54 rfl (ct_X4_cellOf (d := d) (k := k)) mi_X4_cellOf ml_X4_104 st_X4_cellOf rfl rfl ⟨Nat.le_of_ble_eq_true rfl, Nat.le_of_ble_eq_true rfl⟩ (Nat.le_of_ble_eq_true rfl) (Nat.zero_le _) (Nat.zero_le _) (fun r54 V54 p54 => ?_)
        obtain ⟨rfl, rfl⟩ := And.intro p54.1.symm p54.2
        refine k_bipush 57 59 C dX4_lines_57 rfl (v := 6) rfl ?_
        refine k_iadd 59 60 C dX4_lines_59 rfl  ?_
        refine k_rwI (y := nI ((ceC (d) (k)) + (6))) (nI_add (ceC (d) (k)) (6)) ?_
        refine k_callVI 60 63 C [_] [_] dX4_lines_60 rfl (ct_X4_of (k := (ceC (d) (k)) + (6)) (by first | omega | (simp only [hdC, ceC]; omega)) hM (hf)) mi_X4_of ml_X4_65 im_X4_of se_X4_of ci_X4 (IsMdl.o ‹_›) rfl rfl ⟨Nat.le_of_ble_eq_true rfl, Nat.le_of_ble_eq_true rfl⟩ (Nat.le_of_ble_eq_true rfl) (Nat.zero_le _) (Nat.zero_le _) (fun r60 V60 p60 => ?_)
        obtain ⟨rfl, rfl⟩ := And.intro p60.1.symm p60.2
        refine k_iadd 63 64 C dX4_lines_63 rfl  ?_
        refine k_istore 64 66 C [(4, _), (3, _), (7, _), (6, _), (5, _), (0, _), (1, _), (2, _)] dX4_lines_64 rfl (by decide) rfl ?_
        refine k_iload 66 68 C dX4_lines_66 rfl 2 rfl ?_
        refine k_iload 68 70 C dX4_lines_68 rfl 4 rfl ?_
        refine k_icmp_le 70 78 73 C dX4_lines_70 (by decide) rfl (fun h70 => ?_) (fun h70 => ?_)
        · have z70 : (if (f (ceC d k + 5)).toInt32 ≤ u3 then u3 else (f (ceC d k + 5)).toInt32) = u3 := if_pos h70
          refine k_iload 78 80 C dX4_lines_78 rfl 4 rfl ?_
          refine k_istore 80 82 C [(5, _), (4, _), (3, _), (7, _), (6, _), (0, _), (1, _), (2, _)] dX4_lines_80 rfl (by decide) rfl ?_
          refine k_iinc 82 85 C [(6, _), (5, _), (4, _), (3, _), (7, _), (0, _), (1, _), (2, _)] (nI (k + 1)) dX4_lines_82 rfl 4 rfl (nI_1 (k)) (by decide) rfl ?_
          refine k_goto 85 11 C dX4_lines_85 (by decide) ?_
          refine k_perm [0, 1, 2, 3, 5, 6, 7] (L' := [(6, _), (5, _), (4, _), (3, _), (0, _), (1, _), (2, _)]) rfl ?_
          exact ih (z - (k + 1)) (by omega) (k + 1) _ _ _ rfl (by omega) (by simp only [mlN, hg, z38, z70])
        · have z70 : (if (f (ceC d k + 5)).toInt32 ≤ u3 then u3 else (f (ceC d k + 5)).toInt32) = (f (ceC d k + 5)).toInt32 := if_neg h70
          refine k_iload 73 75 C dX4_lines_73 rfl 2 rfl ?_
          refine k_goto 75 80 C dX4_lines_75 (by decide) ?_
          refine k_istore 80 82 C [(5, _), (4, _), (3, _), (7, _), (6, _), (0, _), (1, _), (2, _)] dX4_lines_80 rfl (by decide) rfl ?_
          refine k_iinc 82 85 C [(6, _), (5, _), (4, _), (3, _), (7, _), (0, _), (1, _), (2, _)] (nI (k + 1)) dX4_lines_82 rfl 4 rfl (nI_1 (k)) (by decide) rfl ?_
          refine k_goto 85 11 C dX4_lines_85 (by decide) ?_
          refine k_perm [0, 1, 2, 3, 5, 6, 7] (L' := [(6, _), (5, _), (4, _), (3, _), (0, _), (1, _), (2, _)]) rfl ?_
          exact ih (z - (k + 1)) (by omega) (k + 1) _ _ _ rfl (by omega) (by simp only [mlN, hg, z38, z70])
  refine k_iconst 0 1 C dX4_lines_0 rfl (v := 0) rfl ?_
  refine k_istore_n 1 2 C [(3, _), (0, _), (1, _), (2, _)] dX4_lines_1 rfl (by decide) rfl ?_
  refine k_iconst 2 3 C dX4_lines_2 rfl (v := 0) rfl ?_
  refine k_istore 3 5 C [(4, _), (3, _), (0, _), (1, _), (2, _)] dX4_lines_3 rfl (by decide) rfl ?_
  refine k_iconst 5 6 C dX4_lines_5 rfl (v := 0) rfl ?_
  refine k_istore 6 8 C [(5, _), (4, _), (3, _), (0, _), (1, _), (2, _)] dX4_lines_6 rfl (by decide) rfl ?_
  refine k_iconst 8 9 C dX4_lines_8 rfl (v := 0) rfl ?_
  refine k_istore 9 11 C [(6, _), (5, _), (4, _), (3, _), (0, _), (1, _), (2, _)] dX4_lines_9 rfl (by decide) rfl ?_
  exact loop11 _ 0 0 0 0 rfl (Nat.zero_le _) rfl
set_option maxHeartbeats 4000000 in
set_option maxRecDepth 100000 in
theorem ct_X4_offBoard {E : gE} {T : gT} {l : Launch} {V : gV} {d z M : Nat} {f : Nat → Int64} (hd : d ≤ 5) (hz : z ≤ 20) (hp : f (hdC d 0) = lN z) (hM : IsMdl T M) (hf : PQ V M f) : CtI E T l yX4_offBoard (gw yX4_offBoard cX4_offBoard 4 (some .int)) { frames := 2, cells := 0, slots := 0, locals := 45 } [.ref M, .int (nI d)] V (fun (r : Int32) (V' : gV) => V' = V ∧ r = obC f d z) := by
  refine ctI_of (L := [(0, .ref M), (1, .int (nI d))]) (by decide) rfl (Nat.le_of_ble_eq_true rfl) rfl (fun p e s m args below meth c C => ?_)
  have loop4 : ∀ (zf : Nat) (k : Nat) (u : Int32), z - k = zf → (k ≤ z) → (obC f d k = u) → KW E T V p l e { frames := 2, cells := 0, slots := 0, locals := 45 } s m args below meth c 4 0 0 (MQ below (va_Qi (fun (r : Int32) (V' : gV) => V' = V ∧ r = obC f d z) (RepS E T) (gA E)) args s 0 0 (gA E)) 4 [(3, .int (nI k)), (2, .int u), (0, .ref M), (1, .int (nI d))] [] := by
    intro zf
    induction zf using Nat.strongRecOn with
    | _ zf ih =>
    intro k u zhf hk hg
    refine k_iload_n 4 5 C dX4_offBoard_4 rfl 0 rfl ?_
    refine k_aload_n 5 6 C dX4_offBoard_5 rfl 2 rfl ?_
    refine k_iload_n 6 7 C dX4_offBoard_6 rfl 3 rfl ?_
    refine k_callVI 7 10 C [_] [_] dX4_offBoard_7 rfl (ct_X4_points hd hM hf) mi_X4_points ml_X4_93 im_X4_points se_X4_points ci_X4 (IsMdl.o ‹_›) rfl rfl ⟨Nat.le_of_ble_eq_true rfl, Nat.le_of_ble_eq_true rfl⟩ (Nat.le_of_ble_eq_true rfl) (Nat.zero_le _) (Nat.zero_le _) (fun r7 V7 p7 => ?_)
    obtain ⟨rfl, rfl⟩ := And.intro p7.1.symm p7.2
    refine k_rwI (y := nI z) (by rw [hp]; exact lN_i _) ?_
    refine k_icmp_ge 10 36 13 C dX4_offBoard_10 (by decide) rfl (fun h10 => ?_) (fun h10 => ?_)
    · have z0 : nI z ≤ nI k := h10
      rw [n1k (by omega) (by omega)] at z0
      obtain rfl : k = z := by omega
      refine k_iload_n 36 37 C dX4_offBoard_36 rfl 1 rfl ?_
      refine k_iret 37 C dX4_offBoard_37 rfl ?_
      exact ⟨rfl, hg.symm⟩
    · have z0 : ¬ nI z ≤ nI k := h10
      rw [n1k (by omega) (by omega)] at z0
      refine k_iload_n 13 14 C dX4_offBoard_13 rfl 1 rfl ?_
      refine k_aload_n 14 15 C dX4_offBoard_14 rfl 2 rfl ?_
      refine k_iload_n 15 16 C dX4_offBoard_15 rfl 3 rfl ?_
      refine k_iload_n 16 17 C dX4_offBoard_16 rfl 0 rfl ?_
      refine k_callVI 17 20 C [_, _] [_] dX4_offBoard_17 rfl (ct_X4_isOnBoard (d := d) (k := k) (by omega) (by omega) hM (hf)) mi_X4_isOnBoard ml_X4_138 im_X4_isOnBoard se_X4_isOnBoard ci_X4 (IsMdl.o ‹_›) rfl rfl ⟨Nat.le_of_ble_eq_true rfl, Nat.le_of_ble_eq_true rfl⟩ (Nat.le_of_ble_eq_true rfl) (Nat.zero_le _) (Nat.zero_le _) (fun r17 V17 p17 => ?_)
      obtain ⟨rfl, rfl⟩ := And.intro p17.1.symm p17.2
      refine k_ifb_eq 20 27 23 C dX4_offBoard_20 (by decide) rfl (fun h20 => ?_) (fun h20 => ?_)
      · have z20 : (if onP f d k = true then (0 : Int32) else 1) = 1 := if_neg h20
        refine k_iconst 27 28 C dX4_offBoard_27 rfl (v := 1) rfl ?_
        refine k_iadd 28 29 C dX4_offBoard_28 rfl  ?_
        refine k_istore_n 29 30 C [(2, _), (3, _), (0, _), (1, _)] dX4_offBoard_29 rfl (by decide) rfl ?_
        refine k_iinc 30 33 C [(3, _), (2, _), (0, _), (1, _)] (nI (k + 1)) dX4_offBoard_30 rfl 1 rfl (nI_1 (k)) (by decide) rfl ?_
        refine k_goto 33 4 C dX4_offBoard_33 (by decide) ?_
        exact ih (z - (k + 1)) (by omega) (k + 1) _ rfl (by omega) (by simp only [obC, hg, z20])
      · have z20 : (if onP f d k = true then (0 : Int32) else 1) = 0 := if_pos h20
        refine k_iconst 23 24 C dX4_offBoard_23 rfl (v := 0) rfl ?_
        refine k_goto 24 28 C dX4_offBoard_24 (by decide) ?_
        refine k_iadd 28 29 C dX4_offBoard_28 rfl  ?_
        refine k_istore_n 29 30 C [(2, _), (3, _), (0, _), (1, _)] dX4_offBoard_29 rfl (by decide) rfl ?_
        refine k_iinc 30 33 C [(3, _), (2, _), (0, _), (1, _)] (nI (k + 1)) dX4_offBoard_30 rfl 1 rfl (nI_1 (k)) (by decide) rfl ?_
        refine k_goto 33 4 C dX4_offBoard_33 (by decide) ?_
        exact ih (z - (k + 1)) (by omega) (k + 1) _ rfl (by omega) (by simp only [obC, hg, z20])
  refine k_iconst 0 1 C dX4_offBoard_0 rfl (v := 0) rfl ?_
  refine k_istore_n 1 2 C [(2, _), (0, _), (1, _)] dX4_offBoard_1 rfl (by decide) rfl ?_
  refine k_iconst 2 3 C dX4_offBoard_2 rfl (v := 0) rfl ?_
  refine k_istore_n 3 4 C [(3, _), (2, _), (0, _), (1, _)] dX4_offBoard_3 rfl (by decide) rfl ?_
  exact loop4 _ 0 0 rfl (Nat.zero_le _) rfl
