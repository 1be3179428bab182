/-- the lengths can be reckoned -/
def LnOK (f : Nat → Int64) (d k : Nat) : Prop := ¬ dvs (f (ceC d k + 1)) (f (ceC d (k - 1) + 1)) = 0 ∧ ¬ dvs (f (ceC d k + 3)) (f (ceC d (k - 1) + 3)) = 0 ∧ ¬ dvs (lqD f d k 0) (lqD f d k 2) = 0 ∧ ¬ leD f d k = 0
def adP (f : Nat → Int64) (d k : Nat) (x y : Int32) (w : Int64) : Nat → Int64 := va_up (va_up (va_up (va_up (va_up (va_up f (ceC d k) x.toInt64) (ceC d k + 1) 1) (ceC d k + 2) y.toInt64) (ceC d k + 3) 1) (ceC d k + 4) w) (ceC d k + 5) w
def adQ (f : Nat → Int64) (d k : Nat) (x y : Int32) (b : Bool) : Nat → Int64 := va_up (adP f d k x y (if b then 1 else 0)) (ceC d k + 6) (if b then (leN (adP f d k x y 1) d k / leD (adP f d k x y 1) d k).toInt32.toInt64 else 0)
def adF (f : Nat → Int64) (d k : Nat) (x y : Int32) (b : Bool) : Nat → Int64 := va_up (adQ f d k x y b) (hdC d 0) (adQ f d k x y b (hdC d 0) + 1)
set_option maxHeartbeats 4000000 in
set_option maxRecDepth 100000 in
theorem ct_X4_lengthTo {E : gE} {T : gT} {l : Launch} {V : gV} {d k M : Nat} {f : Nat → Int64} (hd : d ≤ 5) (hk : k < 20) (hk1 : 1 ≤ k) (hM : IsMdl T M) (hf : PQ V M f) (hL : LnOK f d k) : CtI E T l yX4_lengthTo (gw yX4_lengthTo cX4_lengthTo 9 (some .int)) { frames := 4, cells := 0, slots := 0, locals := 108 } [.ref M, .int (nI d), .int (nI k)] V (fun (r : Int32) (V' : gV) => Pg V V' M f ∧ r = (leN f d k / leD f d k).toInt32) := by
  refine ctI_of (L := [(0, .ref M), (1, .int (nI d)), (2, .int (nI k))]) (by decide) rfl (Nat.le_of_ble_eq_true rfl) rfl (fun p e s m args below meth c C => ?_)
  obtain ⟨hz1, hz2, hz3, hz4⟩ := hL
  refine k_iload_n 0 1 C dX4_lengthTo_0 rfl 1 rfl ?_
  refine k_iload_n 1 2 C dX4_lengthTo_1 rfl 2 rfl ?_
  refine k_callSI 2 5 C [_, _] [] dX4_lengthTo_2 rfl (ct_X4_cellOf (d := d) (k := k)) mi_X4_cellOf ml_X4_104 st_X4_cellOf rfl rfl ⟨Nat.le_of_ble_eq_true rfl, Nat.le_of_ble_eq_true rfl⟩ (Nat.le_of_ble_eq_true rfl) (Nat.zero_le _) (Nat.zero_le _) (fun r2 V2 p2 => ?_)
  obtain ⟨rfl, rfl⟩ := And.intro p2.1.symm p2.2
  refine k_istore_n 5 6 C [(3, _), (0, _), (1, _), (2, _)] dX4_lengthTo_5 rfl (by decide) rfl ?_
  refine k_iload_n 6 7 C dX4_lengthTo_6 rfl 2 rfl ?_
  refine k_iload_n 7 8 C dX4_lengthTo_7 rfl 3 rfl ?_
  refine k_iconst 8 9 C dX4_lengthTo_8 rfl (v := 1) rfl ?_
  refine k_isub 9 10 C dX4_lengthTo_9 rfl  ?_
  refine k_rwI (y := nI (k - 1)) (pk_sub (a := k) (b := 1) (by omega)) ?_
  refine k_callSI 10 13 C [_, _] [] dX4_lengthTo_10 rfl (ct_X4_cellOf (d := d) (k := k - 1)) mi_X4_cellOf ml_X4_104 st_X4_cellOf rfl rfl ⟨Nat.le_of_ble_eq_true rfl, Nat.le_of_ble_eq_true rfl⟩ (Nat.le_of_ble_eq_true rfl) (Nat.zero_le _) (Nat.zero_le _) (fun r10 V10 p10 => ?_)
  obtain ⟨rfl, rfl⟩ := And.intro p10.1.symm p10.2
  refine k_istore 13 15 C [(4, _), (3, _), (0, _), (1, _), (2, _)] dX4_lengthTo_13 rfl (by decide) rfl ?_
  refine k_aload_n 15 16 C dX4_lengthTo_15 rfl 2 rfl ?_
  refine k_aload_n 16 17 C dX4_lengthTo_16 rfl 2 rfl ?_
  refine k_getF 17 20 C dX4_lengthTo_17 rfl ci_X4 0 fl_X4_7 (IsMdl.o ‹_›) (by decide) (IsMdl.f0 ‹_›) rfl ?_
  refine k_iload_n 20 21 C dX4_lengthTo_20 rfl 1 rfl ?_
  refine k_laldP 21 22 C dX4_lengthTo_21 rfl ‹_› (f := f) (hf) (c0 := ceC (d) (k)) (by first | omega | (simp only [hdC, ceC]; omega)) ?_
  refine k_aload_n 22 23 C dX4_lengthTo_22 rfl 2 rfl ?_
  refine k_getF 23 26 C dX4_lengthTo_23 rfl ci_X4 0 fl_X4_7 (IsMdl.o ‹_›) (by decide) (IsMdl.f0 ‹_›) rfl ?_
  refine k_iload_n 26 27 C dX4_lengthTo_26 rfl 1 rfl ?_
  refine k_iconst 27 28 C dX4_lengthTo_27 rfl (v := 1) rfl ?_
  refine k_iadd 28 29 C dX4_lengthTo_28 rfl  ?_
  refine k_rwI (y := nI ((ceC (d) (k)) + (1))) (nI_add (ceC (d) (k)) (1)) ?_
  refine k_laldP 29 30 C dX4_lengthTo_29 rfl ‹_› (f := f) (hf) (c0 := (ceC (d) (k)) + (1)) (by first | omega | (simp only [hdC, ceC]; omega)) ?_
  refine k_ldc2 30 33 C dX4_lengthTo_30 rfl kl_X4_96 ?_
  refine k_aload_n 33 34 C dX4_lengthTo_33 rfl 2 rfl ?_
  refine k_getF 34 37 C dX4_lengthTo_34 rfl ci_X4 0 fl_X4_7 (IsMdl.o ‹_›) (by decide) (IsMdl.f0 ‹_›) rfl ?_
  refine k_iload 37 39 C dX4_lengthTo_37 rfl 0 rfl ?_
  refine k_laldP 39 40 C dX4_lengthTo_39 rfl ‹_› (f := f) (hf) (c0 := ceC (d) (k - 1)) (by first | omega | (simp only [hdC, ceC]; omega)) ?_
  refine k_aload_n 40 41 C dX4_lengthTo_40 rfl 2 rfl ?_
  refine k_getF 41 44 C dX4_lengthTo_41 rfl ci_X4 0 fl_X4_7 (IsMdl.o ‹_›) (by decide) (IsMdl.f0 ‹_›) rfl ?_
  refine k_iload 44 46 C dX4_lengthTo_44 rfl 0 rfl ?_
  refine k_iconst 46 47 C dX4_lengthTo_46 rfl (v := 1) rfl ?_
  refine k_iadd 47 48 C dX4_lengthTo_47 rfl  ?_
  refine k_rwI (y := nI ((ceC (d) (k - 1)) + (1))) (nI_add (ceC (d) (k - 1)) (1)) ?_
  refine k_laldP 48 49 C dX4_lengthTo_48 rfl ‹_› (f := f) (hf) (c0 := (ceC (d) (k - 1)) + (1)) (by first | omega | (simp only [hdC, ceC]; omega)) ?_
  refine k_callVV 49 52 C [_, _, _, _, _] [] dX4_lengthTo_49 rfl (ct_X4_plus hz1 hM) mi_X4_plus ml_X4_107 im_X4_plus se_X4_plus ci_X4 (IsMdl.o ‹_›) rfl rfl ⟨Nat.le_of_ble_eq_true rfl, Nat.le_of_ble_eq_true rfl⟩ (Nat.le_of_ble_eq_true rfl) (Nat.zero_le _) (Nat.zero_le _) (fun V49 p49 => ?_)
  obtain ⟨g49, t49, u49⟩ := tl_all p49 (hf)
  refine k_aload_n 52 53 C dX4_lengthTo_52 rfl 2 rfl ?_
  refine k_get 53 56 C dX4_lengthTo_53 rfl ci_X4 6 fl_X4_46 (IsMdl.o ‹_›) (by decide) rfl ?_
  refine k_rwL ((t49)) ?_
  refine k_callSL 56 59 C [_] [] dX4_lengthTo_56 rfl ct_X4_size mi_X4_size ml_X4_30 st_X4_size rfl rfl ⟨Nat.le_of_ble_eq_true rfl, Nat.le_of_ble_eq_true rfl⟩ (Nat.le_of_ble_eq_true rfl) (Nat.zero_le _) (Nat.zero_le _) (fun r56 V56 p56 => ?_)
  obtain ⟨rfl, rfl⟩ := And.intro p56.1.symm p56.2
  refine k_lstore 59 61 C [(5, _), (4, _), (3, _), (0, _), (1, _), (2, _)] dX4_lengthTo_59 rfl (by decide) rfl ?_
  refine k_aload_n 61 62 C dX4_lengthTo_61 rfl 3 rfl ?_
  refine k_get 62 65 C dX4_lengthTo_62 rfl ci_X4 7 fl_X4_50 (IsMdl.o ‹_›) (by decide) rfl ?_
  refine k_rwL ((u49)) ?_
  refine k_lstore 65 67 C [(7, _), (5, _), (4, _), (3, _), (0, _), (1, _), (2, _)] dX4_lengthTo_65 rfl (by decide) rfl ?_
  refine k_aload_n 67 68 C dX4_lengthTo_67 rfl 4 rfl ?_
  refine k_aload_n 68 69 C dX4_lengthTo_68 rfl 4 rfl ?_
  refine k_getF 69 72 C dX4_lengthTo_69 rfl ci_X4 0 fl_X4_7 (IsMdl.o ‹_›) (by decide) (IsMdl.f0 ‹_›) rfl ?_
  refine k_iload_n 72 73 C dX4_lengthTo_72 rfl 3 rfl ?_
  refine k_iconst 73 74 C dX4_lengthTo_73 rfl (v := 2) rfl ?_
  refine k_iadd 74 75 C dX4_lengthTo_74 rfl  ?_
  refine k_rwI (y := nI ((ceC (d) (k)) + (2))) (nI_add (ceC (d) (k)) (2)) ?_
  refine k_laldP 75 76 C dX4_lengthTo_75 rfl ‹_› (f := f) (g49.2.2.2) (c0 := (ceC (d) (k)) + (2)) (by first | omega | (simp only [hdC, ceC]; omega)) ?_
  refine k_aload_n 76 77 C dX4_lengthTo_76 rfl 4 rfl ?_
  refine k_getF 77 80 C dX4_lengthTo_77 rfl ci_X4 0 fl_X4_7 (IsMdl.o ‹_›) (by decide) (IsMdl.f0 ‹_›) rfl ?_
  refine k_iload_n 80 81 C dX4_lengthTo_80 rfl 3 rfl ?_
  refine k_iconst 81 82 C dX4_lengthTo_81 rfl (v := 3) rfl ?_
  refine k_iadd 82 83 C dX4_lengthTo_82 rfl  ?_
  refine k_rwI (y := nI ((ceC (d) (k)) + (3))) (nI_add (ceC (d) (k)) (3)) ?_
  refine k_laldP 83 84 C dX4_lengthTo_83 rfl ‹_› (f := f) (g49.2.2.2) (c0 := (ceC (d) (k)) + (3)) (by first | omega | (simp only [hdC, ceC]; omega)) ?_
  refine k_ldc2 84 87 C dX4_lengthTo_84 rfl kl_X4_96 ?_
  refine k_aload_n 87 88 C dX4_lengthTo_87 rfl 4 rfl ?_
  refine k_getF 88 91 C dX4_lengthTo_88 rfl ci_X4 0 fl_X4_7 (IsMdl.o ‹_›) (by decide) (IsMdl.f0 ‹_›) rfl ?_
  refine k_iload 91 93 C dX4_lengthTo_91 rfl 2 rfl ?_
  refine k_iconst 93 94 C dX4_lengthTo_93 rfl (v := 2) rfl ?_
  refine k_iadd 94 95 C dX4_lengthTo_94 rfl  ?_
  refine k_rwI (y := nI ((ceC (d) (k - 1)) + (2))) (nI_add (ceC (d) (k - 1)) (2)) ?_
  refine k_laldP 95 96 C dX4_lengthTo_95 rfl ‹_› (f := f) (g49.2.2.2) (c0 := (ceC (d) (k - 1)) + (2)) (by first | omega | (simp only [hdC, ceC]; omega)) ?_
  refine k_aload_n 96 97 C dX4_lengthTo_96 rfl 4 rfl ?_
  refine k_getF 97 100 C dX4_lengthTo_97 rfl ci_X4 0 fl_X4_7 (IsMdl.o ‹_›) (by decide) (IsMdl.f0 ‹_›) rfl ?_
  refine k_iload 100 102 C dX4_lengthTo_100 rfl 2 rfl ?_
  refine k_iconst 102 103 C dX4_lengthTo_102 rfl (v := 3) rfl ?_
  refine k_iadd 103 104 C dX4_lengthTo_103 rfl  ?_
  refine k_rwI (y := nI ((ceC (d) (k - 1)) + (3))) (nI_add (ceC (d) (k - 1)) (3)) ?_
  refine k_laldP 104 105 C dX4_lengthTo_104 rfl ‹_› (f := f) (g49.2.2.2) (c0 := (ceC (d) (k - 1)) + (3)) (by first | omega | (simp only [hdC, ceC]; omega)) ?_
  refine k_callVV 105 108 C [_, _, _, _, _] [] dX4_lengthTo_105 rfl (ct_X4_plus hz2 hM) mi_X4_plus ml_X4_107 im_X4_plus se_X4_plus ci_X4 (IsMdl.o ‹_›) rfl rfl ⟨Nat.le_of_ble_eq_true rfl, Nat.le_of_ble_eq_true rfl⟩ (Nat.le_of_ble_eq_true rfl) (Nat.zero_le _) (Nat.zero_le _) (fun V105 p105 => ?_)
  obtain ⟨g105, t105, u105⟩ := tl_all p105 (g49.2.2.2)
  refine k_aload_n 108 109 C dX4_lengthTo_108 rfl 4 rfl ?_
  refine k_lload 109 111 C dX4_lengthTo_109 rfl 1 rfl ?_
  refine k_lload 111 113 C dX4_lengthTo_111 rfl 0 rfl ?_
  refine k_lconst 113 114 C dX4_lengthTo_113 rfl (v := 1) rfl ?_
  refine k_aload_n 114 115 C dX4_lengthTo_114 rfl 4 rfl ?_
  refine k_get 115 118 C dX4_lengthTo_115 rfl ci_X4 6 fl_X4_46 (IsMdl.o ‹_›) (by decide) rfl ?_
  refine k_rwL ((t105)) ?_
  refine k_callSL 118 121 C [_] [_, _, _, _] dX4_lengthTo_118 rfl ct_X4_size mi_X4_size ml_X4_30 st_X4_size rfl rfl ⟨Nat.le_of_ble_eq_true rfl, Nat.le_of_ble_eq_true rfl⟩ (Nat.le_of_ble_eq_true rfl) (Nat.zero_le _) (Nat.zero_le _) (fun r118 V118 p118 => ?_)
  obtain ⟨rfl, rfl⟩ := And.intro p118.1.symm p118.2
  refine k_aload_n 121 122 C dX4_lengthTo_121 rfl 4 rfl ?_
  refine k_get 122 125 C dX4_lengthTo_122 rfl ci_X4 7 fl_X4_50 (IsMdl.o ‹_›) (by decide) rfl ?_
  refine k_rwL ((u105)) ?_
  refine k_callVV 125 128 C [_, _, _, _, _] [] dX4_lengthTo_125 rfl (ct_X4_plus hz3 hM) mi_X4_plus ml_X4_107 im_X4_plus se_X4_plus ci_X4 (IsMdl.o ‹_›) rfl rfl ⟨Nat.le_of_ble_eq_true rfl, Nat.le_of_ble_eq_true rfl⟩ (Nat.le_of_ble_eq_true rfl) (Nat.zero_le _) (Nat.zero_le _) (fun V125 p125 => ?_)
  obtain ⟨g125, t125, u125⟩ := tl_all p125 (g105.2.2.2)
  refine k_aload_n 128 129 C dX4_lengthTo_128 rfl 4 rfl ?_
  refine k_get 129 132 C dX4_lengthTo_129 rfl ci_X4 6 fl_X4_46 (IsMdl.o ‹_›) (by decide) rfl ?_
  refine k_rwL ((t125)) ?_
  refine k_aload_n 132 133 C dX4_lengthTo_132 rfl 4 rfl ?_
  refine k_get 133 136 C dX4_lengthTo_133 rfl ci_X4 7 fl_X4_50 (IsMdl.o ‹_›) (by decide) rfl ?_
  refine k_rwL ((u125)) ?_
  refine k_ldiv 136 137 C dX4_lengthTo_136 rfl hz4 ?_
  refine k_l2i 137 138 C dX4_lengthTo_137 rfl  ?_
  refine k_iret 138 C dX4_lengthTo_138 rfl ?_
  exact ⟨(((Pg.rf hf).trans g49).trans g105).trans g125, rfl⟩
set_option maxHeartbeats 4000000 in
set_option maxRecDepth 100000 in
theorem ct_X4_adds {E : gE} {T : gT} {l : Launch} {V : gV} {d k M : Nat} {x y q : Int32} {f : Nat → Int64} (hd : d ≤ 5) (hk : k < 20) (hp : f (hdC d 0) = lN k) (hM : IsMdl T M) (hf : PQ V M f) (hL : 1 ≤ k → LnOK (adP f d k x y 1) d k) : CtV E T l yX4_adds (gw yX4_adds cX4_adds 8 none) { frames := 5, cells := 0, slots := 0, locals := 136 } [.ref M, .int (nI d), .int x, .int y, .int q] V (fun (V' : gV) => Pg V V' M (adF f d k x y (decide (q = 1 ∧ 0 < k)))) := by
  refine ctV_of (L := [(0, .ref M), (1, .int (nI d)), (2, .int x), (3, .int y), (4, .int q)]) (by decide) rfl (Nat.le_of_ble_eq_true rfl) rfl (fun p e s m args below meth c C => ?_)
  refine k_aload_n 0 1 C dX4_adds_0 rfl 0 rfl ?_
  refine k_iload_n 1 2 C dX4_adds_1 rfl 1 rfl ?_
  refine k_callVI 2 5 C [_] [] dX4_adds_2 rfl (ct_X4_points hd hM hf) mi_X4_points ml_X4_93 im_X4_points se_X4_points ci_X4 (IsMdl.o ‹_›) rfl rfl ⟨Nat.le_of_ble_eq_true rfl, Nat.le_of_ble_eq_true rfl⟩ (Nat.le_of_ble_eq_true rfl) (Nat.zero_le _) (Nat.zero_le _) (fun r2 V2 p2 => ?_)
  obtain ⟨rfl, rfl⟩ := And.intro p2.1.symm p2.2
  refine k_rwI (y := nI k) (by rw [hp]; exact lN_i _) ?_
  refine k_istore 5 7 C [(5, _), (0, _), (1, _), (2, _), (3, _), (4, _)] dX4_adds_5 rfl (by decide) rfl ?_
  refine k_iload_n 7 8 C dX4_adds_7 rfl 2 rfl ?_
  refine k_iload 8 10 C dX4_adds_8 rfl 0 rfl ?_
  refine k_callSI 10 13 C [_, _] [] dX4_adds_10 rfl (ct_X4_cellOf (d := d) (k := k)) mi_X4_cellOf ml_X4_104 st_X4_cellOf rfl rfl ⟨Nat.le_of_ble_eq_true rfl, Nat.le_of_ble_eq_true rfl⟩ (Nat.le_of_ble_eq_true rfl) (Nat.zero_le _) (Nat.zero_le _) (fun r10 V10 p10 => ?_)
  obtain ⟨rfl, rfl⟩ := And.intro p10.1.symm p10.2
  refine k_istore 13 15 C [(6, _), (5, _), (0, _), (1, _), (2, _), (3, _), (4, _)] dX4_adds_13 rfl (by decide) rfl ?_
  refine k_iload 15 17 C dX4_adds_15 rfl 6 rfl ?_
  refine k_iconst 17 18 C dX4_adds_17 rfl (v := 1) rfl ?_
  refine k_icmp_ne 18 30 21 C dX4_adds_18 (by decide) rfl (fun h18 => ?_) (fun h18 => ?_)
  · have zb : decide (q = 1 ∧ 0 < k) = false := decide_eq_false (fun zz => h18 zz.1)
    refine k_iconst 30 31 C dX4_adds_30 rfl (v := 0) rfl ?_
    refine k_istore 31 33 C [(7, _), (6, _), (5, _), (0, _), (1, _), (2, _), (3, _), (4, _)] dX4_adds_31 rfl (by decide) rfl ?_
    refine k_aload_n 33 34 C dX4_adds_33 rfl 3 rfl ?_
    refine k_getF 34 37 C dX4_adds_34 rfl ci_X4 0 fl_X4_7 (IsMdl.o ‹_›) (by decide) (IsMdl.f0 ‹_›) rfl ?_
    refine k_iload 37 39 C dX4_adds_37 rfl 1 rfl ?_
    refine k_iload_n 39 40 C dX4_adds_39 rfl 5 rfl ?_
    refine k_i2l 40 41 C dX4_adds_40 rfl  ?_
    refine k_lastP 41 42 C dX4_adds_41 rfl ‹_› (f := f) (hf) (c0 := ceC (d) (k)) (by first | omega | (simp only [hdC, ceC]; omega)) (fun V41 p41 => ?_)
    refine k_aload_n 42 43 C dX4_adds_42 rfl 3 rfl ?_
    refine k_getF 43 46 C dX4_adds_43 rfl ci_X4 0 fl_X4_7 (IsMdl.o ‹_›) (by decide) (IsMdl.f0 ‹_›) rfl ?_
    refine k_iload 46 48 C dX4_adds_46 rfl 1 rfl ?_
    refine k_iconst 48 49 C dX4_adds_48 rfl (v := 1) rfl ?_
    refine k_iadd 49 50 C dX4_adds_49 rfl  ?_
    refine k_rwI (y := nI ((ceC (d) (k)) + (1))) (nI_add (ceC (d) (k)) (1)) ?_
    refine k_lconst 50 51 C dX4_adds_50 rfl (v := 1) rfl ?_
    refine k_lastP 51 52 C dX4_adds_51 rfl ‹_› (f := va_up (f) (ceC (d) (k)) (_)) (p41.2.2.2) (c0 := (ceC (d) (k)) + (1)) (by first | omega | (simp only [hdC, ceC]; omega)) (fun V51 p51 => ?_)
    refine k_aload_n 52 53 C dX4_adds_52 rfl 3 rfl ?_
    refine k_getF 53 56 C dX4_adds_53 rfl ci_X4 0 fl_X4_7 (IsMdl.o ‹_›) (by decide) (IsMdl.f0 ‹_›) rfl ?_
    refine k_iload 56 58 C dX4_adds_56 rfl 1 rfl ?_
    refine k_iconst 58 59 C dX4_adds_58 rfl (v := 2) rfl ?_
    refine k_iadd 59 60 C dX4_adds_59 rfl  ?_
    refine k_rwI (y := nI ((ceC (d) (k)) + (2))) (nI_add (ceC (d) (k)) (2)) ?_
    refine k_iload_n 60 61 C dX4_adds_60 rfl 6 rfl ?_
    refine k_i2l 61 62 C dX4_adds_61 rfl  ?_
    refine k_lastP 62 63 C dX4_adds_62 rfl ‹_› (f := va_up (va_up (f) (ceC (d) (k)) (_)) ((ceC (d) (k)) + (1)) (_)) (p51.2.2.2) (c0 := (ceC (d) (k)) + (2)) (by first | omega | (simp only [hdC, ceC]; omega)) (fun V62 p62 => ?_)
    refine k_aload_n 63 64 C dX4_adds_63 rfl 3 rfl ?_
    refine k_getF 64 67 C dX4_adds_64 rfl ci_X4 0 fl_X4_7 (IsMdl.o ‹_›) (by decide) (IsMdl.f0 ‹_›) rfl ?_
    refine k_iload 67 69 C dX4_adds_67 rfl 1 rfl ?_
    refine k_iconst 69 70 C dX4_adds_69 rfl (v := 3) rfl ?_
    refine k_iadd 70 71 C dX4_adds_70 rfl  ?_
    refine k_rwI (y := nI ((ceC (d) (k)) + (3))) (nI_add (ceC (d) (k)) (3)) ?_
    refine k_lconst 71 72 C dX4_adds_71 rfl (v := 1) rfl ?_
    refine k_lastP 72 73 C dX4_adds_72 rfl ‹_› (f := va_up (va_up (va_up (f) (ceC (d) (k)) (_)) ((ceC (d) (k)) + (1)) (_)) ((ceC (d) (k)) + (2)) (_)) (p62.2.2.2) (c0 := (ceC (d) (k)) + (3)) (by first | omega | (simp only [hdC, ceC]; omega)) (fun V72 p72 => ?_)
    refine k_aload_n 73 74 C dX4_adds_73 rfl 3 rfl ?_
    refine k_getF 74 77 C dX4_adds_74 rfl ci_X4 0 fl_X4_7 (IsMdl.o ‹_›) (by decide) (IsMdl.f0 ‹_›) rfl ?_
    refine k_iload 77 79 C dX4_adds_77 rfl 1 rfl ?_
    refine k_iconst 79 80 C dX4_adds_79 rfl (v := 4) rfl ?_
    refine k_iadd 80 81 C dX4_adds_80 rfl  ?_
    refine k_rwI (y := nI ((ceC (d) (k)) + (4))) (nI_add (ceC (d) (k)) (4)) ?_
    refine k_iload 81 83 C dX4_adds_81 rfl 0 rfl ?_
    refine k_if_eq 83 90 86 C dX4_adds_83 (by decide) rfl (fun h83 => ?_) (fun h83 => ?_)
    · refine k_lconst 90 91 C dX4_adds_90 rfl (v := 0) rfl ?_
      refine k_lastP 91 92 C dX4_adds_91 rfl ‹_› (f := va_up (va_up (va_up (va_up (f) (ceC (d) (k)) (_)) ((ceC (d) (k)) + (1)) (_)) ((ceC (d) (k)) + (2)) (_)) ((ceC (d) (k)) + (3)) (_)) (p72.2.2.2) (c0 := (ceC (d) (k)) + (4)) (by first | omega | (simp only [hdC, ceC]; omega)) (fun V91 p91 => ?_)
      refine k_aload_n 92 93 C dX4_adds_92 rfl 3 rfl ?_
      refine k_getF 93 96 C dX4_adds_93 rfl ci_X4 0 fl_X4_7 (IsMdl.o ‹_›) (by decide) (IsMdl.f0 ‹_›) rfl ?_
      refine k_iload 96 98 C dX4_adds_96 rfl 1 rfl ?_
      refine k_iconst 98 99 C dX4_adds_98 rfl (v := 5) rfl ?_
      refine k_iadd 99 100 C dX4_adds_99 rfl  ?_
      refine k_rwI (y := nI ((ceC (d) (k)) + (5))) (nI_add (ceC (d) (k)) (5)) ?_
      refine k_iload 100 102 C dX4_adds_100 rfl 0 rfl ?_
      refine k_if_eq 102 109 105 C dX4_adds_102 (by decide) rfl (fun h102 => ?_) (fun h102 => ?_)
      · refine k_lconst 109 110 C dX4_adds_109 rfl (v := 0) rfl ?_
        refine k_lastP 110 111 C dX4_adds_110 rfl ‹_› (f := va_up (va_up (va_up (va_up (va_up (f) (ceC (d) (k)) (_)) ((ceC (d) (k)) + (1)) (_)) ((ceC (d) (k)) + (2)) (_)) ((ceC (d) (k)) + (3)) (_)) ((ceC (d) (k)) + (4)) (_)) (p91.2.2.2) (c0 := (ceC (d) (k)) + (5)) (by first | omega | (simp only [hdC, ceC]; omega)) (fun V110 p110 => ?_)
        refine k_aload_n 111 112 C dX4_adds_111 rfl 3 rfl ?_
        refine k_getF 112 115 C dX4_adds_112 rfl ci_X4 0 fl_X4_7 (IsMdl.o ‹_›) (by decide) (IsMdl.f0 ‹_›) rfl ?_
        refine k_iload 115 117 C dX4_adds_115 rfl 1 rfl ?_
        refine k_bipush 117 119 C dX4_adds_117 rfl (v := 6) rfl ?_
        refine k_iadd 119 120 C dX4_adds_119 rfl  ?_
        refine k_rwI (y := nI ((ceC (d) (k)) + (6))) (nI_add (ceC (d) (k)) (6)) ?_
        refine k_iload 120 122 C dX4_adds_120 rfl 0 rfl ?_
        refine k_if_eq 122 136 125 C dX4_adds_122 (by decide) rfl (fun h122 => ?_) (fun h122 => ?_)
        · refine k_lconst 136 137 C dX4_adds_136 rfl (v := 0) rfl ?_
          refine k_lastP 137 138 C dX4_adds_137 rfl ‹_› (f := va_up (va_up (va_up (va_up (va_up (va_up (f) (ceC (d) (k)) (_)) ((ceC (d) (k)) + (1)) (_)) ((ceC (d) (k)) + (2)) (_)) ((ceC (d) (k)) + (3)) (_)) ((ceC (d) (k)) + (4)) (_)) ((ceC (d) (k)) + (5)) (_)) (p110.2.2.2) (c0 := (ceC (d) (k)) + (6)) (by first | omega | (simp only [hdC, ceC]; omega)) (fun V137 p137 => ?_)
          refine k_aload_n 138 139 C dX4_adds_138 rfl 3 rfl ?_
          refine k_getF 139 142 C dX4_adds_139 rfl ci_X4 0 fl_X4_7 (IsMdl.o ‹_›) (by decide) (IsMdl.f0 ‹_›) rfl ?_
          refine k_iload_n 142 143 C dX4_adds_142 rfl 4 rfl ?_
          refine k_iconst 143 144 C dX4_adds_143 rfl (v := 0) rfl ?_
          refine k_callSI 144 147 C [_, _] [_] dX4_adds_144 rfl (ct_X4_head (d := d) (k := 0)) mi_X4_head ml_X4_85 st_X4_head rfl rfl ⟨Nat.le_of_ble_eq_true rfl, Nat.le_of_ble_eq_true rfl⟩ (Nat.le_of_ble_eq_true rfl) (Nat.zero_le _) (Nat.zero_le _) (fun r144 V144 p144 => ?_)
          obtain ⟨rfl, rfl⟩ := And.intro p144.1.symm p144.2
          refine k_dup2 147 148 C dX4_adds_147 rfl rfl rfl ?_
          refine k_laldP 148 149 C dX4_adds_148 rfl ‹_› (f := va_up (va_up (va_up (va_up (va_up (va_up (va_up (f) (ceC (d) (k)) (_)) ((ceC (d) (k)) + (1)) (_)) ((ceC (d) (k)) + (2)) (_)) ((ceC (d) (k)) + (3)) (_)) ((ceC (d) (k)) + (4)) (_)) ((ceC (d) (k)) + (5)) (_)) ((ceC (d) (k)) + (6)) (_)) (p137.2.2.2) (c0 := hdC (d) (0)) (by first | omega | (simp only [hdC, ceC]; omega)) ?_
          refine k_lconst 149 150 C dX4_adds_149 rfl (v := 1) rfl ?_
          refine k_ladd 150 151 C dX4_adds_150 rfl  ?_
          refine k_lastP 151 152 C dX4_adds_151 rfl ‹_› (f := va_up (va_up (va_up (va_up (va_up (va_up (va_up (f) (ceC (d) (k)) (_)) ((ceC (d) (k)) + (1)) (_)) ((ceC (d) (k)) + (2)) (_)) ((ceC (d) (k)) + (3)) (_)) ((ceC (d) (k)) + (4)) (_)) ((ceC (d) (k)) + (5)) (_)) ((ceC (d) (k)) + (6)) (_)) (p137.2.2.2) (c0 := hdC (d) (0)) (by first | omega | (simp only [hdC, ceC]; omega)) (fun V151 p151 => ?_)
          refine k_vret 152 C dX4_adds_152 rfl ?_
          rw [zb]
          exact ((((((((Pg.rf hf).trans p41).trans p51).trans p62).trans p72).trans p91).trans p110).trans p137).trans p151
        · exact absurd h122 (by decide)
      · exact absurd h102 (by decide)
    · exact absurd h83 (by decide)
  · refine k_iload 21 23 C dX4_adds_21 rfl 1 rfl ?_
    refine k_if_le 23 30 26 C dX4_adds_23 (by decide) rfl (fun h23 => ?_) (fun h23 => ?_)
    · have zk : k = 0 := by
        have z1 : nI k ≤ nI 0 := h23
        rw [n1k (by omega) (by omega)] at z1; omega
      have zb : decide (q = 1 ∧ 0 < k) = false := decide_eq_false (fun zz => by omega)
      refine k_iconst 30 31 C dX4_adds_30 rfl (v := 0) rfl ?_
      refine k_istore 31 33 C [(7, _), (6, _), (5, _), (0, _), (1, _), (2, _), (3, _), (4, _)] dX4_adds_31 rfl (by decide) rfl ?_
      refine k_aload_n 33 34 C dX4_adds_33 rfl 3 rfl ?_
      refine k_getF 34 37 C dX4_adds_34 rfl ci_X4 0 fl_X4_7 (IsMdl.o ‹_›) (by decide) (IsMdl.f0 ‹_›) rfl ?_
      refine k_iload 37 39 C dX4_adds_37 rfl 1 rfl ?_
      refine k_iload_n 39 40 C dX4_adds_39 rfl 5 rfl ?_
      refine k_i2l 40 41 C dX4_adds_40 rfl  ?_
      refine k_lastP 41 42 C dX4_adds_41 rfl ‹_› (f := f) (hf) (c0 := ceC (d) (k)) (by first | omega | (simp only [hdC, ceC]; omega)) (fun V41 p41 => ?_)
      refine k_aload_n 42 43 C dX4_adds_42 rfl 3 rfl ?_
      refine k_getF 43 46 C dX4_adds_43 rfl ci_X4 0 fl_X4_7 (IsMdl.o ‹_›) (by decide) (IsMdl.f0 ‹_›) rfl ?_
      refine k_iload 46 48 C dX4_adds_46 rfl 1 rfl ?_
      refine k_iconst 48 49 C dX4_adds_48 rfl (v := 1) rfl ?_
      refine k_iadd 49 50 C dX4_adds_49 rfl  ?_
      refine k_rwI (y := nI ((ceC (d) (k)) + (1))) (nI_add (ceC (d) (k)) (1)) ?_
      refine k_lconst 50 51 C dX4_adds_50 rfl (v := 1) rfl ?_
      refine k_lastP 51 52 C dX4_adds_51 rfl ‹_› (f := va_up (f) (ceC (d) (k)) (_)) (p41.2.2.2) (c0 := (ceC (d) (k)) + (1)) (by first | omega | (simp only [hdC, ceC]; omega)) (fun V51 p51 => ?_)
      refine k_aload_n 52 53 C dX4_adds_52 rfl 3 rfl ?_
      refine k_getF 53 56 C dX4_adds_53 rfl ci_X4 0 fl_X4_7 (IsMdl.o ‹_›) (by decide) (IsMdl.f0 ‹_›) rfl ?_
      refine k_iload 56 58 C dX4_adds_56 rfl 1 rfl ?_
      refine k_iconst 58 59 C dX4_adds_58 rfl (v := 2) rfl ?_
      refine k_iadd 59 60 C dX4_adds_59 rfl  ?_
      refine k_rwI (y := nI ((ceC (d) (k)) + (2))) (nI_add (ceC (d) (k)) (2)) ?_
      refine k_iload_n 60 61 C dX4_adds_60 rfl 6 rfl ?_
      refine k_i2l 61 62 C dX4_adds_61 rfl  ?_
      refine k_lastP 62 63 C dX4_adds_62 rfl ‹_› (f := va_up (va_up (f) (ceC (d) (k)) (_)) ((ceC (d) (k)) + (1)) (_)) (p51.2.2.2) (c0 := (ceC (d) (k)) + (2)) (by first | omega | (simp only [hdC, ceC]; omega)) (fun V62 p62 => ?_)
      refine k_aload_n 63 64 C dX4_adds_63 rfl 3 rfl ?_
      refine k_getF 64 67 C dX4_adds_64 rfl ci_X4 0 fl_X4_7 (IsMdl.o ‹_›) (by decide) (IsMdl.f0 ‹_›) rfl ?_
      refine k_iload 67 69 C dX4_adds_67 rfl 1 rfl ?_
      refine k_iconst 69 70 C dX4_adds_69 rfl (v := 3) rfl ?_
      refine k_iadd 70 71 C dX4_adds_70 rfl  ?_
      refine k_rwI (y := nI ((ceC (d) (k)) + (3))) (nI_add (ceC (d) (k)) (3)) ?_
      refine k_lconst 71 72 C dX4_adds_71 rfl (v := 1) rfl ?_
      refine k_lastP 72 73 C dX4_adds_72 rfl ‹_› (f := va_up (va_up (va_up (f) (ceC (d) (k)) (_)) ((ceC (d) (k)) + (1)) (_)) ((ceC (d) (k)) + (2)) (_)) (p62.2.2.2) (c0 := (ceC (d) (k)) + (3)) (by first | omega | (simp only [hdC, ceC]; omega)) (fun V72 p72 => ?_)
      refine k_aload_n 73 74 C dX4_adds_73 rfl 3 rfl ?_
      refine k_getF 74 77 C dX4_adds_74 rfl ci_X4 0 fl_X4_7 (IsMdl.o ‹_›) (by decide) (IsMdl.f0 ‹_›) rfl ?_
      refine k_iload 77 79 C dX4_adds_77 rfl 1 rfl ?_
      refine k_iconst 79 80 C dX4_adds_79 rfl (v := 4) rfl ?_
      refine k_iadd 80 81 C dX4_adds_80 rfl  ?_
      refine k_rwI (y := nI ((ceC (d) (k)) + (4))) (nI_add (ceC (d) (k)) (4)) ?_
      refine k_iload 81 83 C dX4_adds_81 rfl 0 rfl ?_
      refine k_if_eq 83 90 86 C dX4_adds_83 (by decide) rfl (fun h83 => ?_) (fun h83 => ?_)
      · refine k_lconst 90 91 C dX4_adds_90 rfl (v := 0) rfl ?_
        refine k_lastP 91 92 C dX4_adds_91 rfl ‹_› (f := va_up (va_up (va_up (va_up (f) (ceC (d) (k)) (_)) ((ceC (d) (k)) + (1)) (_)) ((ceC (d) (k)) + (2)) (_)) ((ceC (d) (k)) + (3)) (_)) (p72.2.2.2) (c0 := (ceC (d) (k)) + (4)) (by first | omega | (simp only [hdC, ceC]; omega)) (fun V91 p91 => ?_)
        refine k_aload_n 92 93 C dX4_adds_92 rfl 3 rfl ?_
        refine k_getF 93 96 C dX4_adds_93 rfl ci_X4 0 fl_X4_7 (IsMdl.o ‹_›) (by decide) (IsMdl.f0 ‹_›) rfl ?_
        refine k_iload 96 98 C dX4_adds_96 rfl 1 rfl ?_
        refine k_iconst 98 99 C dX4_adds_98 rfl (v := 5) rfl ?_
        refine k_iadd 99 100 C dX4_adds_99 rfl  ?_
        refine k_rwI (y := nI ((ceC (d) (k)) + (5))) (nI_add (ceC (d) (k)) (5)) ?_
        refine k_iload 100 102 C dX4_adds_100 rfl 0 rfl ?_
        refine k_if_eq 102 109 105 C dX4_adds_102 (by decide) rfl (fun h102 => ?_) (fun h102 => ?_)
        · refine k_lconst 109 110 C dX4_adds_109 rfl (v := 0) rfl ?_
          refine k_lastP 110 111 C dX4_adds_110 rfl ‹_› (f := va_up (va_up (va_up (va_up (va_up (f) (ceC (d) (k)) (_)) ((ceC (d) (k)) + (1)) (_)) ((ceC (d) (k)) + (2)) (_)) ((ceC (d) (k)) + (3)) (_)) ((ceC (d) (k)) + (4)) (_)) (p91.2.2.2) (c0 := (ceC (d) (k)) + (5)) (by first | omega | (simp only [hdC, ceC]; omega)) (fun V110 p110 => ?_)
          refine k_aload_n 111 112 C dX4_adds_111 rfl 3 rfl ?_
          refine k_getF 112 115 C dX4_adds_112 rfl ci_X4 0 fl_X4_7 (IsMdl.o ‹_›) (by decide) (IsMdl.f0 ‹_›) rfl ?_
          refine k_iload 115 117 C dX4_adds_115 rfl 1 rfl ?_
          refine k_bipush 117 119 C dX4_adds_117 rfl (v := 6) rfl ?_
          refine k_iadd 119 120 C dX4_adds_119 rfl  ?_
          refine k_rwI (y := nI ((ceC (d) (k)) + (6))) (nI_add (ceC (d) (k)) (6)) ?_
          refine k_iload 120 122 C dX4_adds_120 rfl 0 rfl ?_
          refine k_if_eq 122 136 125 C dX4_adds_122 (by decide) rfl (fun h122 => ?_) (fun h122 => ?_)
          · refine k_lconst 136 137 C dX4_adds_136 rfl (v := 0) rfl ?_
            refine k_lastP 137 138 C dX4_adds_137 rfl ‹_› (f := va_up (va_up (va_up (va_up (va_up (va_up (f) (ceC (d) (k)) (_)) ((ceC (d) (k)) + (1)) (_)) ((ceC (d) (k)) + (2)) (_)) ((ceC (d) (k)) + (3)) (_)) ((ceC (d) (k)) + (4)) (_)) ((ceC (d) (k)) + (5)) (_)) (p110.2.2.2) (c0 := (ceC (d) (k)) + (6)) (by first | omega | (simp only [hdC, ceC]; omega)) (fun V137 p137 => ?_)
            refine k_aload_n 138 139 C dX4_adds_138 rfl 3 rfl ?_
            refine k_getF 139 142 C dX4_adds_139 rfl ci_X4 0 fl_X4_7 (IsMdl.o ‹_›) (by decide) (IsMdl.f0 ‹_›) rfl ?_
            refine k_iload_n 142 143 C dX4_adds_142 rfl 4 rfl ?_
            refine k_iconst 143 144 C dX4_adds_143 rfl (v := 0) rfl ?_
            refine k_callSI 144 147 C [_, _] [_] dX4_adds_144 rfl (ct_X4_head (d := d) (k := 0)) mi_X4_head ml_X4_85 st_X4_head rfl rfl ⟨Nat.le_of_ble_eq_true rfl, Nat.le_of_ble_eq_true rfl⟩ (Nat.le_of_ble_eq_true rfl) (Nat.zero_le _) (Nat.zero_le _) (fun r144 V144 p144 => ?_)
            obtain ⟨rfl, rfl⟩ := And.intro p144.1.symm p144.2
            refine k_dup2 147 148 C dX4_adds_147 rfl rfl rfl ?_
            refine k_laldP 148 149 C dX4_adds_148 rfl ‹_› (f := va_up (va_up (va_up (va_up (va_up (va_up (va_up (f) (ceC (d) (k)) (_)) ((ceC (d) (k)) + (1)) (_)) ((ceC (d) (k)) + (2)) (_)) ((ceC (d) (k)) + (3)) (_)) ((ceC (d) (k)) + (4)) (_)) ((ceC (d) (k)) + (5)) (_)) ((ceC (d) (k)) + (6)) (_)) (p137.2.2.2) (c0 := hdC (d) (0)) (by first | omega | (simp only [hdC, ceC]; omega)) ?_
            refine k_lconst 149 150 C dX4_adds_149 rfl (v := 1) rfl ?_
            refine k_ladd 150 151 C dX4_adds_150 rfl  ?_
            refine k_lastP 151 152 C dX4_adds_151 rfl ‹_› (f := va_up (va_up (va_up (va_up (va_up (va_up (va_up (f) (ceC (d) (k)) (_)) ((ceC (d) (k)) + (1)) (_)) ((ceC (d) (k)) + (2)) (_)) ((ceC (d) (k)) + (3)) (_)) ((ceC (d) (k)) + (4)) (_)) ((ceC (d) (k)) + (5)) (_)) ((ceC (d) (k)) + (6)) (_)) (p137.2.2.2) (c0 := hdC (d) (0)) (by first | omega | (simp only [hdC, ceC]; omega)) (fun V151 p151 => ?_)
            refine k_vret 152 C dX4_adds_152 rfl ?_
            rw [zb]
            exact ((((((((Pg.rf hf).trans p41).trans p51).trans p62).trans p72).trans p91).trans p110).trans p137).trans p151
          · exact absurd h122 (by decide)
        · exact absurd h102 (by decide)
      · exact absurd h83 (by decide)
    · have zk : 1 ≤ k := by
        have z1 : ¬ nI k ≤ nI 0 := h23
        rw [n1k (by omega) (by omega)] at z1; omega
      have zb : decide (q = 1 ∧ 0 < k) = true := decide_eq_true ⟨h18, zk⟩
      refine k_iconst 26 27 C dX4_adds_26 rfl (v := 1) rfl ?_
      refine k_goto 27 31 C dX4_adds_27 (by decide) ?_
      refine k_istore 31 33 C [(7, _), (6, _), (5, _), (0, _), (1, _), (2, _), (3, _), (4, _)] dX4_adds_31 rfl (by decide) rfl ?_
      refine k_aload_n 33 34 C dX4_adds_33 rfl 3 rfl ?_
      refine k_getF 34 37 C dX4_adds_34 rfl ci_X4 0 fl_X4_7 (IsMdl.o ‹_›) (by decide) (IsMdl.f0 ‹_›) rfl ?_
      refine k_iload 37 39 C dX4_adds_37 rfl 1 rfl ?_
      refine k_iload_n 39 40 C dX4_adds_39 rfl 5 rfl ?_
      refine k_i2l 40 41 C dX4_adds_40 rfl  ?_
      refine k_lastP 41 42 C dX4_adds_41 rfl ‹_› (f := f) (hf) (c0 := ceC (d) (k)) (by first | omega | (simp only [hdC, ceC]; omega)) (fun V41 p41 => ?_)
      refine k_aload_n 42 43 C dX4_adds_42 rfl 3 rfl ?_
      refine k_getF 43 46 C dX4_adds_43 rfl ci_X4 0 fl_X4_7 (IsMdl.o ‹_›) (by decide) (IsMdl.f0 ‹_›) rfl ?_
      refine k_iload 46 48 C dX4_adds_46 rfl 1 rfl ?_
      refine k_iconst 48 49 C dX4_adds_48 rfl (v := 1) rfl ?_
      refine k_iadd 49 50 C dX4_adds_49 rfl  ?_
      refine k_rwI (y := nI ((ceC (d) (k)) + (1))) (nI_add (ceC (d) (k)) (1)) ?_
      refine k_lconst 50 51 C dX4_adds_50 rfl (v := 1) rfl ?_
      refine k_lastP 51 52 C dX4_adds_51 rfl ‹_› (f := va_up (f) (ceC (d) (k)) (_)) (p41.2.2.2) (c0 := (ceC (d) (k)) + (1)) (by first | omega | (simp only [hdC, ceC]; omega)) (fun V51 p51 => ?_)
      refine k_aload_n 52 53 C dX4_adds_52 rfl 3 rfl ?_
      refine k_getF 53 56 C dX4_adds_53 rfl ci_X4 0 fl_X4_7 (IsMdl.o ‹_›) (by decide) (IsMdl.f0 ‹_›) rfl ?_
      refine k_iload 56 58 C dX4_adds_56 rfl 1 rfl ?_
      refine k_iconst 58 59 C dX4_adds_58 rfl (v := 2) rfl ?_
      refine k_iadd 59 60 C dX4_adds_59 rfl  ?_
      refine k_rwI (y := nI ((ceC (d) (k)) + (2))) (nI_add (ceC (d) (k)) (2)) ?_
      refine k_iload_n 60 61 C dX4_adds_60 rfl 6 rfl ?_
      refine k_i2l 61 62 C dX4_adds_61 rfl  ?_
      refine k_lastP 62 63 C dX4_adds_62 rfl ‹_› (f := va_up (va_up (f) (ceC (d) (k)) (_)) ((ceC (d) (k)) + (1)) (_)) (p51.2.2.2) (c0 := (ceC (d) (k)) + (2)) (by first | omega | (simp only [hdC, ceC]; omega)) (fun V62 p62 => ?_)
      refine k_aload_n 63 64 C dX4_adds_63 rfl 3 rfl ?_
      refine k_getF 64 67 C dX4_adds_64 rfl ci_X4 0 fl_X4_7 (IsMdl.o ‹_›) (by decide) (IsMdl.f0 ‹_›) rfl ?_
      refine k_iload 67 69 C dX4_adds_67 rfl 1 rfl ?_
      refine k_iconst 69 70 C dX4_adds_69 rfl (v := 3) rfl ?_
      refine k_iadd 70 71 C dX4_adds_70 rfl  ?_
      refine k_rwI (y := nI ((ceC (d) (k)) + (3))) (nI_add (ceC (d) (k)) (3)) ?_
      refine k_lconst 71 72 C dX4_adds_71 rfl (v := 1) rfl ?_
      refine k_lastP 72 73 C dX4_adds_72 rfl ‹_› (f := va_up (va_up (va_up (f) (ceC (d) (k)) (_)) ((ceC (d) (k)) + (1)) (_)) ((ceC (d) (k)) + (2)) (_)) (p62.2.2.2) (c0 := (ceC (d) (k)) + (3)) (by first | omega | (simp only [hdC, ceC]; omega)) (fun V72 p72 => ?_)
      refine k_aload_n 73 74 C dX4_adds_73 rfl 3 rfl ?_
      refine k_getF 74 77 C dX4_adds_74 rfl ci_X4 0 fl_X4_7 (IsMdl.o ‹_›) (by decide) (IsMdl.f0 ‹_›) rfl ?_
      refine k_iload 77 79 C dX4_adds_77 rfl 1 rfl ?_
      refine k_iconst 79 80 C dX4_adds_79 rfl (v := 4) rfl ?_
      refine k_iadd 80 81 C dX4_adds_80 rfl  ?_
      refine k_rwI (y := nI ((ceC (d) (k)) + (4))) (nI_add (ceC (d) (k)) (4)) ?_
      refine k_iload 81 83 C dX4_adds_81 rfl 0 rfl ?_
      refine k_if_eq 83 90 86 C dX4_adds_83 (by decide) rfl (fun h83 => ?_) (fun h83 => ?_)
      · exact absurd h83 (by decide)
      · refine k_lconst 86 87 C dX4_adds_86 rfl (v := 1) rfl ?_
        refine k_goto 87 91 C dX4_adds_87 (by decide) ?_
        refine k_lastP 91 92 C dX4_adds_91 rfl ‹_› (f := va_up (va_up (va_up (va_up (f) (ceC (d) (k)) (_)) ((ceC (d) (k)) + (1)) (_)) ((ceC (d) (k)) + (2)) (_)) ((ceC (d) (k)) + (3)) (_)) (p72.2.2.2) (c0 := (ceC (d) (k)) + (4)) (by first | omega | (simp only [hdC, ceC]; omega)) (fun V91 p91 => ?_)
        refine k_aload_n 92 93 C dX4_adds_92 rfl 3 rfl ?_
        refine k_getF 93 96 C dX4_adds_93 rfl ci_X4 0 fl_X4_7 (IsMdl.o ‹_›) (by decide) (IsMdl.f0 ‹_›) rfl ?_
        refine k_iload 96 98 C dX4_adds_96 rfl 1 rfl ?_
        refine k_iconst 98 99 C dX4_adds_98 rfl (v := 5) rfl ?_
        refine k_iadd 99 100 C dX4_adds_99 rfl  ?_
        refine k_rwI (y := nI ((ceC (d) (k)) + (5))) (nI_add (ceC (d) (k)) (5)) ?_
        refine k_iload 100 102 C dX4_adds_100 rfl 0 rfl ?_
        refine k_if_eq 102 109 105 C dX4_adds_102 (by decide) rfl (fun h102 => ?_) (fun h102 => ?_)
        · exact absurd h102 (by decide)
        · refine k_lconst 105 106 C dX4_adds_105 rfl (v := 1) rfl ?_
          refine k_goto 106 110 C dX4_adds_106 (by decide) ?_
          refine k_lastP 110 111 C dX4_adds_110 rfl ‹_› (f := va_up (va_up (va_up (va_up (va_up (f) (ceC (d) (k)) (_)) ((ceC (d) (k)) + (1)) (_)) ((ceC (d) (k)) + (2)) (_)) ((ceC (d) (k)) + (3)) (_)) ((ceC (d) (k)) + (4)) (_)) (p91.2.2.2) (c0 := (ceC (d) (k)) + (5)) (by first | omega | (simp only [hdC, ceC]; omega)) (fun V110 p110 => ?_)
          refine k_aload_n 111 112 C dX4_adds_111 rfl 3 rfl ?_
          refine k_getF 112 115 C dX4_adds_112 rfl ci_X4 0 fl_X4_7 (IsMdl.o ‹_›) (by decide) (IsMdl.f0 ‹_›) rfl ?_
          refine k_iload 115 117 C dX4_adds_115 rfl 1 rfl ?_
          refine k_bipush 117 119 C dX4_adds_117 rfl (v := 6) rfl ?_
          refine k_iadd 119 120 C dX4_adds_119 rfl  ?_
          refine k_rwI (y := nI ((ceC (d) (k)) + (6))) (nI_add (ceC (d) (k)) (6)) ?_
          refine k_iload 120 122 C dX4_adds_120 rfl 0 rfl ?_
          refine k_if_eq 122 136 125 C dX4_adds_122 (by decide) rfl (fun h122 => ?_) (fun h122 => ?_)
          · exact absurd h122 (by decide)
          · refine k_aload_n 125 126 C dX4_adds_125 rfl 3 rfl ?_
            refine k_iload_n 126 127 C dX4_adds_126 rfl 4 rfl ?_
            refine k_iload 127 129 C dX4_adds_127 rfl 2 rfl ?_
            refine k_callVI 129 132 C [_, _] [_, _] dX4_adds_129 rfl (ct_X4_lengthTo hd hk zk hM (p110.2.2.2) (hL zk)) mi_X4_lengthTo ml_X4_111 im_X4_lengthTo se_X4_lengthTo ci_X4 (IsMdl.o ‹_›) rfl rfl ⟨Nat.le_of_ble_eq_true rfl, Nat.le_of_ble_eq_true rfl⟩ (Nat.le_of_ble_eq_true rfl) (Nat.zero_le _) (Nat.zero_le _) (fun r129 V129 p129 => ?_)
            obtain ⟨zg, rfl⟩ := p129
            have p129 := And.intro zg True.intro
            refine k_i2l 132 133 C dX4_adds_132 rfl  ?_
            refine k_goto 133 137 C dX4_adds_133 (by decide) ?_
            refine k_lastP 137 138 C dX4_adds_137 rfl ‹_› (f := va_up (va_up (va_up (va_up (va_up (va_up (f) (ceC (d) (k)) (_)) ((ceC (d) (k)) + (1)) (_)) ((ceC (d) (k)) + (2)) (_)) ((ceC (d) (k)) + (3)) (_)) ((ceC (d) (k)) + (4)) (_)) ((ceC (d) (k)) + (5)) (_)) (p129.1.2.2.2) (c0 := (ceC (d) (k)) + (6)) (by first | omega | (simp only [hdC, ceC]; omega)) (fun V137 p137 => ?_)
            refine k_aload_n 138 139 C dX4_adds_138 rfl 3 rfl ?_
            refine k_getF 139 142 C dX4_adds_139 rfl ci_X4 0 fl_X4_7 (IsMdl.o ‹_›) (by decide) (IsMdl.f0 ‹_›) rfl ?_
            refine k_iload_n 142 143 C dX4_adds_142 rfl 4 rfl ?_
            refine k_iconst 143 144 C dX4_adds_143 rfl (v := 0) rfl ?_
            refine k_callSI 144 147 C [_, _] [_] dX4_adds_144 rfl (ct_X4_head (d := d) (k := 0)) mi_X4_head ml_X4_85 st_X4_head rfl rfl ⟨Nat.le_of_ble_eq_true rfl, Nat.le_of_ble_eq_true rfl⟩ (Nat.le_of_ble_eq_true rfl) (Nat.zero_le _) (Nat.zero_le _) (fun r144 V144 p144 => ?_)
            obtain ⟨rfl, rfl⟩ := And.intro p144.1.symm p144.2
            refine k_dup2 147 148 C dX4_adds_147 rfl rfl rfl ?_
            refine k_laldP 148 149 C dX4_adds_148 rfl ‹_› (f := va_up (va_up (va_up (va_up (va_up (va_up (va_up (f) (ceC (d) (k)) (_)) ((ceC (d) (k)) + (1)) (_)) ((ceC (d) (k)) + (2)) (_)) ((ceC (d) (k)) + (3)) (_)) ((ceC (d) (k)) + (4)) (_)) ((ceC (d) (k)) + (5)) (_)) ((ceC (d) (k)) + (6)) (_)) (p137.2.2.2) (c0 := hdC (d) (0)) (by first | omega | (simp only [hdC, ceC]; omega)) ?_
            refine k_lconst 149 150 C dX4_adds_149 rfl (v := 1) rfl ?_
            refine k_ladd 150 151 C dX4_adds_150 rfl  ?_
            refine k_lastP 151 152 C dX4_adds_151 rfl ‹_› (f := va_up (va_up (va_up (va_up (va_up (va_up (va_up (f) (ceC (d) (k)) (_)) ((ceC (d) (k)) + (1)) (_)) ((ceC (d) (k)) + (2)) (_)) ((ceC (d) (k)) + (3)) (_)) ((ceC (d) (k)) + (4)) (_)) ((ceC (d) (k)) + (5)) (_)) ((ceC (d) (k)) + (6)) (_)) (p137.2.2.2) (c0 := hdC (d) (0)) (by first | omega | (simp only [hdC, ceC]; omega)) (fun V151 p151 => ?_)
            refine k_vret 152 C dX4_adds_152 rfl ?_
            rw [zb]
            exact (((((((((Pg.rf hf).trans p41).trans p51).trans p62).trans p72).trans p91).trans p110).trans p129.1).trans p137).trans p151
