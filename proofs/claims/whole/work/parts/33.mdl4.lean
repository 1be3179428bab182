/-- behind a call of the reference -/
def AfM (V V1 : gV) (M : Nat) (f : Nat → Int64) (h : Nat) (H : Nat → Nat → Int64) (x : Option (Nat → Int64)) : Prop := (match x with
  | none => PQ V1 M f ∧ HQ V1 M h H
  | some f1 => PQ V1 M f1 ∧ HQ V1 M (remN h) (keepH f h H)) ∧ KpM V V1 M
theorem AfM.no {V : gV} {M h : Nat} {f : Nat → Int64} {H : Nat → Nat → Int64} (hf : PQ V M f) (hh : HQ V M h H) : AfM V V M f h H none := ⟨⟨hf, hh⟩, KpM.rf⟩
theorem AfM.of {V V1 V2 : gV} {M h : Nat} {f f1 : Nat → Int64} {H : Nat → Nat → Int64} (y : HQ V1 M (remN h) (keepH f h H)) (k : KpM V V1 M) (g : Pg V1 V2 M f1) : AfM V V2 M f h H (some f1) := ⟨⟨g.2.2.2, y.pg g⟩, k.trans g.kp⟩
def mArm (f : Nat → Int64) (x y : Int32) : Int32 × Option (Nat → Int64) := if okR x 1 20 ∧ okR y 1 20 then (100 * (f 0).toInt32 + (f 1).toInt32, some (va_up (va_up f 0 x.toInt64) 1 y.toInt64)) else (-2000000001, none)
def mPiv (f : Nat → Int64) (x y : Int32) : Int32 × Option (Nat → Int64) := if okR x 0 1000 ∧ okR y 0 1000 then (10000 * (f 2).toInt32 + (f 3).toInt32, some (va_up (va_up f 2 x.toInt64) 3 y.toInt64)) else (-2000000001, none)
abbrev stOK (q v : Int32) : Prop := (q = 0 ∧ okR v 0 2) ∨ (q = 1 ∧ okR v 0 50) ∨ ((q = 2 ∨ q = 3) ∧ okR v 10 1000) ∨ (q = 4 ∧ okR v 1 1000)
theorem st_0 {v : Int32} : okR v 0 2 ↔ stOK 0 v := ⟨fun z => Or.inl ⟨rfl, z⟩, fun z => by
  rcases z with ⟨q, z⟩ | ⟨q, z⟩ | ⟨q | q, z⟩ | ⟨q, z⟩
  · exact z
  · exact absurd q (by decide)
  · exact absurd q (by decide)
  · exact absurd q (by decide)
  · exact absurd q (by decide)⟩
theorem st_1 {v : Int32} : okR v 0 50 ↔ stOK 1 v := ⟨fun z => Or.inr (Or.inl ⟨rfl, z⟩), fun z => by
  rcases z with ⟨q, z⟩ | ⟨q, z⟩ | ⟨q | q, z⟩ | ⟨q, z⟩
  · exact absurd q (by decide)
  · exact z
  · exact absurd q (by decide)
  · exact absurd q (by decide)
  · exact absurd q (by decide)⟩
theorem st_2 {v : Int32} : okR v 10 1000 ↔ stOK 2 v := ⟨fun z => Or.inr (Or.inr (Or.inl ⟨Or.inl rfl, z⟩)), fun z => by
  rcases z with ⟨q, z⟩ | ⟨q, z⟩ | ⟨q | q, z⟩ | ⟨q, z⟩
  · exact absurd q (by decide)
  · exact absurd q (by decide)
  · exact z
  · exact absurd q (by decide)
  · exact absurd q (by decide)⟩
theorem st_3 {v : Int32} : okR v 10 1000 ↔ stOK 3 v := ⟨fun z => Or.inr (Or.inr (Or.inl ⟨Or.inr rfl, z⟩)), fun z => by
  rcases z with ⟨q, z⟩ | ⟨q, z⟩ | ⟨q | q, z⟩ | ⟨q, z⟩
  · exact absurd q (by decide)
  · exact absurd q (by decide)
  · exact absurd q (by decide)
  · exact z
  · exact absurd q (by decide)⟩
theorem st_4 {v : Int32} : okR v 1 1000 ↔ stOK 4 v := ⟨fun z => Or.inr (Or.inr (Or.inr ⟨rfl, z⟩)), fun z => by
  rcases z with ⟨q, z⟩ | ⟨q, z⟩ | ⟨q | q, z⟩ | ⟨q, z⟩
  · exact absurd q (by decide)
  · exact absurd q (by decide)
  · exact absurd q (by decide)
  · exact absurd q (by decide)
  · exact z⟩
def mSet (f : Nat → Int64) (w v : Int32) : Int32 × Option (Nat → Int64) := if stOK w v then ((f (4 + w.toNatClampNeg)).toInt32, some (va_up f (4 + w.toNatClampNeg) v.toInt64)) else (-2000000001, none)
def mShp (f : Nat → Int64) : Int32 × Option (Nat → Int64) := if f 10 = 10 then (-2000000003, none) else ((f 9).toInt32, some (va_up (va_up f 10 (f 10 + 1)) 9 0))
def mCnt (f : Nat → Int64) (h zn : Nat) (w : Int32) : Int32 := if w = 0 then (f 14).toInt32 else if w = 11 then bi (¬ 1 + f 9 / f 8 ≤ 9) else if w = 12 then 10 - (f 10).toInt32 else if w = 13 then (f 11).toInt32 else if w = 14 then (f 12).toInt32 else if w = 15 then (f 13).toInt32 else if w = 16 then nI h else if w = 17 then nI zn else if okR w 1 10 then (f (w - 1).toNatClampNeg).toInt32 else -2000000001
theorem ok_n {w : Int32} (h : okR w 1 10) : ∃ j, j < 10 ∧ w = nI (j + 1) := by
  have h1 : 1 ≤ w.toInt := by
    have := h.1; rw [Int32.lt_iff_toInt_lt] at this; have e : (1 : Int32).toInt = 1 := rfl; omega
  have h2 : w.toInt ≤ 10 := by
    have := h.2; rw [Int32.lt_iff_toInt_lt] at this; have e : (10 : Int32).toInt = 10 := rfl; omega
  exact ⟨(w.toInt - 1).toNat, by omega, Int32.toInt_inj.mp (by rw [nI_toInt (by omega)]; omega)⟩
theorem mCnt_in {f : Nat → Int64} {h zn j : Nat} (hj : j < 10) : mCnt f h zn (nI (j + 1)) = (f j).toInt32 := by
  have hq : j = 0 ∨ j = 1 ∨ j = 2 ∨ j = 3 ∨ j = 4 ∨ j = 5 ∨ j = 6 ∨ j = 7 ∨ j = 8 ∨ j = 9 := by omega
  rcases hq with rfl | rfl | rfl | rfl | rfl | rfl | rfl | rfl | rfl | rfl <;> rfl
theorem mCnt_out {f : Nat → Int64} {h zn : Nat} {w : Int32} (hw : w.toInt < 0 ∨ 17 < w.toInt) (hn : ¬ okR w 1 10) : mCnt f h zn w = -2000000001 := by
  have ne : ∀ z : Int32, 0 ≤ z.toInt → z.toInt ≤ 17 → ¬ w = z := fun z z1 z2 zz => by rw [zz] at hw; omega
  unfold mCnt
  rw [if_neg (ne 0 (by decide) (by decide)), if_neg (ne 11 (by decide) (by decide)), if_neg (ne 12 (by decide) (by decide)), if_neg (ne 13 (by decide) (by decide)), if_neg (ne 14 (by decide) (by decide)), if_neg (ne 15 (by decide) (by decide)), if_neg (ne 16 (by decide) (by decide)), if_neg (ne 17 (by decide) (by decide)), if_neg hn]
def bgL (f : Nat → Int64) (n w : Nat) (j : Nat) : Int64 := if 15 + 150 * n ≤ j ∧ j < 15 + 150 * n + w then 0 else f j
theorem bgL_0 {f : Nat → Int64} {n : Nat} : bgL f n 0 = f := by
  funext j; unfold bgL; rw [if_neg (by omega)]
theorem bgL_s {f : Nat → Int64} {n w : Nat} : va_up (bgL f n w) (hdC n w) 0 = bgL f n (w + 1) := by
  funext j
  unfold bgL hdC
  by_cases e : j = 15 + 150 * n + w
  · subst e; rw [va_up_self, if_pos (by omega)]
  · rw [va_up_ne _ _ e]
    by_cases z : 15 + 150 * n ≤ j ∧ j < 15 + 150 * n + w
    · rw [if_pos z, if_pos (by omega)]
    · rw [if_neg z, if_neg (by omega)]
def bgF (f : Nat → Int64) (n : Nat) : Nat → Int64 := va_up (va_up (va_up (va_up (va_up (va_up (va_up (bgL (va_up f 14 (f 14 + 1)) n 150) (hdC n 1) (-1)) (hdC n 2) 1) (hdC n 3) 1) (hdC n 4) 1) (hdC n 5) 1) (hdC n 7) 1) (hdC n 9) 1
def mDrw (f : Nat → Int64) (n : Nat) : Int32 × Option (Nat → Int64) := if n = 6 then (-2000000003, none) else (nI n, some (bgF f n))
set_option maxHeartbeats 4000000 in
set_option maxRecDepth 100000 in
theorem ct_X4_arm {E : gE} {T : gT} {l : Launch} {V : gV} {x y : Int32} {M h : Nat} {f : Nat → Int64} {H : Nat → Nat → Int64} (hM : IsMdl T M) (hf : PQ V M f) (hh : HQ V M h H) : CtI E T l yX4_arm (gw yX4_arm cX4_arm 4 (some .int)) { frames := 2, cells := 0, slots := 0, locals := 45 } [.ref M, .int x, .int y] V (fun (r : Int32) (V' : gV) => r = (mArm f x y).1 ∧ AfM V V' M f h H (mArm f x y).2) := by
  refine ctI_of (L := [(0, .ref M), (1, .int x), (2, .int y)]) (by decide) rfl (Nat.le_of_ble_eq_true rfl) rfl (fun p e s m args below meth c C => ?_)
  refine k_iload_n 0 1 C dX4_arm_0 rfl 1 rfl ?_
  refine k_iconst 1 2 C dX4_arm_1 rfl (v := 1) rfl ?_
  refine k_bipush 2 4 C dX4_arm_2 rfl (v := 20) rfl ?_
  refine k_callSI 4 7 C [_, _, _] [] dX4_arm_4 rfl ct_X4_in mi_X4_in ml_X4_57 st_X4_in rfl rfl ⟨Nat.le_of_ble_eq_true rfl, Nat.le_of_ble_eq_true rfl⟩ (Nat.le_of_ble_eq_true rfl) (Nat.zero_le _) (Nat.zero_le _) (fun r4 V4 p4 => ?_)
  obtain ⟨rfl, rfl⟩ := And.intro p4.1.symm p4.2
  refine k_ifb_eq 7 20 10 C dX4_arm_7 (by decide) rfl (fun h7 => ?_) (fun h7 => ?_)
  · refine k_ldc 20 22 C dX4_arm_20 rfl kc_X4_61 ?_
    refine k_iret 22 C dX4_arm_22 rfl ?_
    have ee : mArm f x y = (-2000000001, none) := by
      unfold mArm; rw [if_neg (fun zz => by first | exact h7 zz.1 | exact h17 zz.2)]
    exact ⟨by rw [ee], by rw [ee]; exact AfM.no hf hh⟩
  · refine k_iload_n 10 11 C dX4_arm_10 rfl 2 rfl ?_
    refine k_iconst 11 12 C dX4_arm_11 rfl (v := 1) rfl ?_
    refine k_bipush 12 14 C dX4_arm_12 rfl (v := 20) rfl ?_
    refine k_callSI 14 17 C [_, _, _] [] dX4_arm_14 rfl ct_X4_in mi_X4_in ml_X4_57 st_X4_in rfl rfl ⟨Nat.le_of_ble_eq_true rfl, Nat.le_of_ble_eq_true rfl⟩ (Nat.le_of_ble_eq_true rfl) (Nat.zero_le _) (Nat.zero_le _) (fun r14 V14 p14 => ?_)
    obtain ⟨rfl, rfl⟩ := And.intro p14.1.symm p14.2
    refine k_ifb_ne 17 23 20 C dX4_arm_17 (by decide) rfl (fun h17 => ?_) (fun h17 => ?_)
    · refine k_aload_n 23 24 C dX4_arm_23 rfl 0 rfl ?_
      refine k_callVV 24 27 C [] [] dX4_arm_24 rfl (ct_X4_keep hM hf hh) mi_X4_keep ml_X4_62 im_X4_keep se_X4_keep ci_X4 (IsMdl.o ‹_›) rfl rfl ⟨Nat.le_of_ble_eq_true rfl, Nat.le_of_ble_eq_true rfl⟩ (Nat.le_of_ble_eq_true rfl) (Nat.zero_le _) (Nat.zero_le _) (fun V24 p24 => ?_)
      obtain ⟨q24, y24, k24⟩ := p24
      refine k_bipush 27 29 C dX4_arm_27 rfl (v := 100) rfl ?_
      refine k_aload_n 29 30 C dX4_arm_29 rfl 0 rfl ?_
      refine k_iconst 30 31 C dX4_arm_30 rfl (v := 0) rfl ?_
      refine k_callVI 31 34 C [_] [_] dX4_arm_31 rfl (ct_X4_of (k := 0) (by first | omega | (simp only [hdC, ceC]; omega)) hM (q24)) mi_X4_of ml_X4_65 im_X4_of se_X4_of ci_X4 (IsMdl.o ‹_›) rfl rfl ⟨Nat.le_of_ble_eq_true rfl, Nat.le_of_ble_eq_true rfl⟩ (Nat.le_of_ble_eq_true rfl) (Nat.zero_le _) (Nat.zero_le _) (fun r31 V31 p31 => ?_)
      obtain ⟨rfl, rfl⟩ := And.intro p31.1.symm p31.2
      refine k_imul 34 35 C dX4_arm_34 rfl  ?_
      refine k_aload_n 35 36 C dX4_arm_35 rfl 0 rfl ?_
      refine k_iconst 36 37 C dX4_arm_36 rfl (v := 1) rfl ?_
      refine k_callVI 37 40 C [_] [_] dX4_arm_37 rfl (ct_X4_of (k := 1) (by first | omega | (simp only [hdC, ceC]; omega)) hM (q24)) mi_X4_of ml_X4_65 im_X4_of se_X4_of ci_X4 (IsMdl.o ‹_›) rfl rfl ⟨Nat.le_of_ble_eq_true rfl, Nat.le_of_ble_eq_true rfl⟩ (Nat.le_of_ble_eq_true rfl) (Nat.zero_le _) (Nat.zero_le _) (fun r37 V37 p37 => ?_)
      obtain ⟨rfl, rfl⟩ := And.intro p37.1.symm p37.2
      refine k_iadd 40 41 C dX4_arm_40 rfl  ?_
      refine k_istore_n 41 42 C [(3, _), (0, _), (1, _), (2, _)] dX4_arm_41 rfl (by decide) rfl ?_
      refine k_aload_n 42 43 C dX4_arm_42 rfl 1 rfl ?_
      refine k_getF 43 46 C dX4_arm_43 rfl ci_X4 0 fl_X4_7 (IsMdl.o ‹_›) (by decide) (IsMdl.f0 ‹_›) rfl ?_
      refine k_iconst 46 47 C dX4_arm_46 rfl (v := 0) rfl ?_
      refine k_iload_n 47 48 C dX4_arm_47 rfl 2 rfl ?_
      refine k_i2l 48 49 C dX4_arm_48 rfl  ?_
      refine k_lastP 49 50 C dX4_arm_49 rfl ‹_› (f := f) (q24) (c0 := 0) (by first | omega | (simp only [hdC, ceC]; omega)) (fun V49 p49 => ?_)
      refine k_aload_n 50 51 C dX4_arm_50 rfl 1 rfl ?_
      refine k_getF 51 54 C dX4_arm_51 rfl ci_X4 0 fl_X4_7 (IsMdl.o ‹_›) (by decide) (IsMdl.f0 ‹_›) rfl ?_
      refine k_iconst 54 55 C dX4_arm_54 rfl (v := 1) rfl ?_
      refine k_iload_n 55 56 C dX4_arm_55 rfl 3 rfl ?_
      refine k_i2l 56 57 C dX4_arm_56 rfl  ?_
      refine k_lastP 57 58 C dX4_arm_57 rfl ‹_› (f := va_up (f) (0) (_)) (p49.2.2.2) (c0 := 1) (by first | omega | (simp only [hdC, ceC]; omega)) (fun V57 p57 => ?_)
      refine k_iload_n 58 59 C dX4_arm_58 rfl 0 rfl ?_
      refine k_iret 59 C dX4_arm_59 rfl ?_
      have ee : mArm f x y = (100 * (f 0).toInt32 + (f 1).toInt32, some (va_up (va_up f 0 x.toInt64) 1 y.toInt64)) := by
        unfold mArm; rw [if_pos ⟨h7, h17⟩]
      exact ⟨by rw [ee], by rw [ee]; exact AfM.of y24 k24 ((((Pg.rf q24)).trans p49).trans p57)⟩
    · refine k_ldc 20 22 C dX4_arm_20 rfl kc_X4_61 ?_
      refine k_iret 22 C dX4_arm_22 rfl ?_
      have ee : mArm f x y = (-2000000001, none) := by
        unfold mArm; rw [if_neg (fun zz => by first | exact h7 zz.1 | exact h17 zz.2)]
      exact ⟨by rw [ee], by rw [ee]; exact AfM.no hf hh⟩
set_option maxHeartbeats 4000000 in
set_option maxRecDepth 100000 in
theorem ct_X4_pivot {E : gE} {T : gT} {l : Launch} {V : gV} {x y : Int32} {M h : Nat} {f : Nat → Int64} {H : Nat → Nat → Int64} (hM : IsMdl T M) (hf : PQ V M f) (hh : HQ V M h H) : CtI E T l yX4_pivot (gw yX4_pivot cX4_pivot 4 (some .int)) { frames := 2, cells := 0, slots := 0, locals := 45 } [.ref M, .int x, .int y] V (fun (r : Int32) (V' : gV) => r = (mPiv f x y).1 ∧ AfM V V' M f h H (mPiv f x y).2) := by
  refine ctI_of (L := [(0, .ref M), (1, .int x), (2, .int y)]) (by decide) rfl (Nat.le_of_ble_eq_true rfl) rfl (fun p e s m args below meth c C => ?_)
  refine k_iload_n 0 1 C dX4_pivot_0 rfl 1 rfl ?_
  refine k_iconst 1 2 C dX4_pivot_1 rfl (v := 0) rfl ?_
  refine k_sipush 2 5 C dX4_pivot_2 rfl (v := 1000) rfl ?_
  refine k_callSI 5 8 C [_, _, _] [] dX4_pivot_5 rfl ct_X4_in mi_X4_in ml_X4_57 st_X4_in rfl rfl ⟨Nat.le_of_ble_eq_true rfl, Nat.le_of_ble_eq_true rfl⟩ (Nat.le_of_ble_eq_true rfl) (Nat.zero_le _) (Nat.zero_le _) (fun r5 V5 p5 => ?_)
  obtain ⟨rfl, rfl⟩ := And.intro p5.1.symm p5.2
  refine k_ifb_eq 8 22 11 C dX4_pivot_8 (by decide) rfl (fun h8 => ?_) (fun h8 => ?_)
  · refine k_ldc 22 24 C dX4_pivot_22 rfl kc_X4_61 ?_
    refine k_iret 24 C dX4_pivot_24 rfl ?_
    have ee : mPiv f x y = (-2000000001, none) := by
      unfold mPiv; rw [if_neg (fun zz => by first | exact h8 zz.1 | exact h19 zz.2)]
    exact ⟨by rw [ee], by rw [ee]; exact AfM.no hf hh⟩
  · refine k_iload_n 11 12 C dX4_pivot_11 rfl 2 rfl ?_
    refine k_iconst 12 13 C dX4_pivot_12 rfl (v := 0) rfl ?_
    refine k_sipush 13 16 C dX4_pivot_13 rfl (v := 1000) rfl ?_
    refine k_callSI 16 19 C [_, _, _] [] dX4_pivot_16 rfl ct_X4_in mi_X4_in ml_X4_57 st_X4_in rfl rfl ⟨Nat.le_of_ble_eq_true rfl, Nat.le_of_ble_eq_true rfl⟩ (Nat.le_of_ble_eq_true rfl) (Nat.zero_le _) (Nat.zero_le _) (fun r16 V16 p16 => ?_)
    obtain ⟨rfl, rfl⟩ := And.intro p16.1.symm p16.2
    refine k_ifb_ne 19 25 22 C dX4_pivot_19 (by decide) rfl (fun h19 => ?_) (fun h19 => ?_)
    · refine k_aload_n 25 26 C dX4_pivot_25 rfl 0 rfl ?_
      refine k_callVV 26 29 C [] [] dX4_pivot_26 rfl (ct_X4_keep hM hf hh) mi_X4_keep ml_X4_62 im_X4_keep se_X4_keep ci_X4 (IsMdl.o ‹_›) rfl rfl ⟨Nat.le_of_ble_eq_true rfl, Nat.le_of_ble_eq_true rfl⟩ (Nat.le_of_ble_eq_true rfl) (Nat.zero_le _) (Nat.zero_le _) (fun V26 p26 => ?_)
      obtain ⟨q26, y26, k26⟩ := p26
      refine k_sipush 29 32 C dX4_pivot_29 rfl (v := 10000) rfl ?_
      refine k_aload_n 32 33 C dX4_pivot_32 rfl 0 rfl ?_
      refine k_iconst 33 34 C dX4_pivot_33 rfl (v := 2) rfl ?_
      refine k_callVI 34 37 C [_] [_] dX4_pivot_34 rfl (ct_X4_of (k := 2) (by first | omega | (simp only [hdC, ceC]; omega)) hM (q26)) mi_X4_of ml_X4_65 im_X4_of se_X4_of ci_X4 (IsMdl.o ‹_›) rfl rfl ⟨Nat.le_of_ble_eq_true rfl, Nat.le_of_ble_eq_true rfl⟩ (Nat.le_of_ble_eq_true rfl) (Nat.zero_le _) (Nat.zero_le _) (fun r34 V34 p34 => ?_)
      obtain ⟨rfl, rfl⟩ := And.intro p34.1.symm p34.2
      refine k_imul 37 38 C dX4_pivot_37 rfl  ?_
      refine k_aload_n 38 39 C dX4_pivot_38 rfl 0 rfl ?_
      refine k_iconst 39 40 C dX4_pivot_39 rfl (v := 3) rfl ?_
      refine k_callVI 40 43 C [_] [_] dX4_pivot_40 rfl (ct_X4_of (k := 3) (by first | omega | (simp only [hdC, ceC]; omega)) hM (q26)) mi_X4_of ml_X4_65 im_X4_of se_X4_of ci_X4 (IsMdl.o ‹_›) rfl rfl ⟨Nat.le_of_ble_eq_true rfl, Nat.le_of_ble_eq_true rfl⟩ (Nat.le_of_ble_eq_true rfl) (Nat.zero_le _) (Nat.zero_le _) (fun r40 V40 p40 => ?_)
      obtain ⟨rfl, rfl⟩ := And.intro p40.1.symm p40.2
      refine k_iadd 43 44 C dX4_pivot_43 rfl  ?_
      refine k_istore_n 44 45 C [(3, _), (0, _), (1, _), (2, _)] dX4_pivot_44 rfl (by decide) rfl ?_
      refine k_aload_n 45 46 C dX4_pivot_45 rfl 1 rfl ?_
      refine k_getF 46 49 C dX4_pivot_46 rfl ci_X4 0 fl_X4_7 (IsMdl.o ‹_›) (by decide) (IsMdl.f0 ‹_›) rfl ?_
      refine k_iconst 49 50 C dX4_pivot_49 rfl (v := 2) rfl ?_
      refine k_iload_n 50 51 C dX4_pivot_50 rfl 2 rfl ?_
      refine k_i2l 51 52 C dX4_pivot_51 rfl  ?_
      refine k_lastP 52 53 C dX4_pivot_52 rfl ‹_› (f := f) (q26) (c0 := 2) (by first | omega | (simp only [hdC, ceC]; omega)) (fun V52 p52 => ?_)
      refine k_aload_n 53 54 C dX4_pivot_53 rfl 1 rfl ?_
      refine k_getF 54 57 C dX4_pivot_54 rfl ci_X4 0 fl_X4_7 (IsMdl.o ‹_›) (by decide) (IsMdl.f0 ‹_›) rfl ?_
      refine k_iconst 57 58 C dX4_pivot_57 rfl (v := 3) rfl ?_
      refine k_iload_n 58 59 C dX4_pivot_58 rfl 3 rfl ?_
      refine k_i2l 59 60 C dX4_pivot_59 rfl  ?_
      refine k_lastP 60 61 C dX4_pivot_60 rfl ‹_› (f := va_up (f) (2) (_)) (p52.2.2.2) (c0 := 3) (by first | omega | (simp only [hdC, ceC]; omega)) (fun V60 p60 => ?_)
      refine k_iload_n 61 62 C dX4_pivot_61 rfl 0 rfl ?_
      refine k_iret 62 C dX4_pivot_62 rfl ?_
      have ee : mPiv f x y = (10000 * (f 2).toInt32 + (f 3).toInt32, some (va_up (va_up f 2 x.toInt64) 3 y.toInt64)) := by
        unfold mPiv; rw [if_pos ⟨h8, h19⟩]
      exact ⟨by rw [ee], by rw [ee]; exact AfM.of y26 k26 ((((Pg.rf q26)).trans p52).trans p60)⟩
    · refine k_ldc 22 24 C dX4_pivot_22 rfl kc_X4_61 ?_
      refine k_iret 24 C dX4_pivot_24 rfl ?_
      have ee : mPiv f x y = (-2000000001, none) := by
        unfold mPiv; rw [if_neg (fun zz => by first | exact h8 zz.1 | exact h19 zz.2)]
      exact ⟨by rw [ee], by rw [ee]; exact AfM.no hf hh⟩
set_option maxHeartbeats 4000000 in
set_option maxRecDepth 100000 in
theorem ct_X4_isSetting {E : gE} {T : gT} {l : Launch} {V : gV} {x v : Int32} : CtI E T l yX4_isSetting (gw yX4_isSetting cX4_isSetting 2 (some .boolean)) { frames := 1, cells := 0, slots := 0, locals := 22 } [.int x, .int v] V (fun (r : Int32) (V' : gV) => V' = V ∧ r = bi (stOK x v)) := by
  refine ctI_of (L := [(0, .int x), (1, .int v)]) (by decide) rfl (Nat.le_of_ble_eq_true rfl) rfl (fun p e s m args below meth c C => ?_)
  refine k_iload_n 0 1 C dX4_isSetting_0 rfl 0 rfl ?_
  refine k_switch4 1 C (fun h1 => ?_) (fun h1 => ?_) (fun h1 => ?_) (fun h1 => ?_) (fun h1 => ?_)
  · refine k_tabOut 1 57 C dX4_isSetting_1 h1 (by decide) ?_
    refine k_iload_n 57 58 C dX4_isSetting_57 rfl 0 rfl ?_
    refine k_iconst 58 59 C dX4_isSetting_58 rfl (v := 4) rfl ?_
    refine k_icmp_ne 59 77 62 C dX4_isSetting_59 (by decide) rfl (fun h59 => ?_) (fun h59 => ?_)
    · have z0 : ¬ stOK x v := fun zz => by
        rcases zz with ⟨rfl, -⟩ | ⟨rfl, -⟩ | ⟨rfl | rfl, -⟩ | ⟨rfl, -⟩
        · exact absurd h1 (by decide)
        · exact absurd h1 (by decide)
        · exact absurd h1 (by decide)
        · exact absurd h1 (by decide)
        · exact absurd rfl h59
      refine k_iconst 77 78 C dX4_isSetting_77 rfl (v := 0) rfl ?_
      refine k_zret 78 C dX4_isSetting_78 rfl (by first | exact Or.inl rfl | exact Or.inr rfl | exact bi_01) ?_
      first
        | exact ⟨rfl, (bi_f z0).symm⟩
        | exact ⟨rfl, (bi_t z1).symm⟩
    · obtain rfl : x = 4 := h59
      refine k_iload_n 62 63 C dX4_isSetting_62 rfl 1 rfl ?_
      refine k_iconst 63 64 C dX4_isSetting_63 rfl (v := 1) rfl ?_
      refine k_sipush 64 67 C dX4_isSetting_64 rfl (v := 1000) rfl ?_
      refine k_callSI 67 70 C [_, _, _] [] dX4_isSetting_67 rfl ct_X4_in mi_X4_in ml_X4_57 st_X4_in rfl rfl ⟨Nat.le_of_ble_eq_true rfl, Nat.le_of_ble_eq_true rfl⟩ (Nat.le_of_ble_eq_true rfl) (Nat.zero_le _) (Nat.zero_le _) (fun r67 V67 p67 => ?_)
      obtain ⟨rfl, rfl⟩ := And.intro p67.1.symm p67.2
      refine k_ifb_eq 70 77 73 C dX4_isSetting_70 (by decide) rfl (fun h70 => ?_) (fun h70 => ?_)
      · have z0 : ¬ stOK 4 v := fun zz => h70 (st_4.mpr zz)
        refine k_iconst 77 78 C dX4_isSetting_77 rfl (v := 0) rfl ?_
        refine k_zret 78 C dX4_isSetting_78 rfl (by first | exact Or.inl rfl | exact Or.inr rfl | exact bi_01) ?_
        first
          | exact ⟨rfl, (bi_f z0).symm⟩
          | exact ⟨rfl, (bi_t z1).symm⟩
      · have z1 : stOK 4 v := Or.inr (Or.inr (Or.inr ⟨rfl, h70⟩))
        refine k_iconst 73 74 C dX4_isSetting_73 rfl (v := 1) rfl ?_
        refine k_goto 74 78 C dX4_isSetting_74 (by decide) ?_
        refine k_zret 78 C dX4_isSetting_78 rfl (by first | exact Or.inl rfl | exact Or.inr rfl | exact bi_01) ?_
        first
          | exact ⟨rfl, (bi_f z0).symm⟩
          | exact ⟨rfl, (bi_t z1).symm⟩
  · refine k_tabAt 1 32 C dX4_isSetting_1 (z := 0) h1 rfl rfl rfl (by decide) ?_
    refine k_iload_n 32 33 C dX4_isSetting_32 rfl 1 rfl ?_
    refine k_iconst 33 34 C dX4_isSetting_33 rfl (v := 0) rfl ?_
    refine k_iconst 34 35 C dX4_isSetting_34 rfl (v := 2) rfl ?_
    refine k_callSI 35 38 C [_, _, _] [] dX4_isSetting_35 rfl ct_X4_in mi_X4_in ml_X4_57 st_X4_in rfl rfl ⟨Nat.le_of_ble_eq_true rfl, Nat.le_of_ble_eq_true rfl⟩ (Nat.le_of_ble_eq_true rfl) (Nat.zero_le _) (Nat.zero_le _) (fun r35 V35 p35 => ?_)
    obtain ⟨rfl, rfl⟩ := And.intro p35.1.symm p35.2
    refine k_zret 38 C dX4_isSetting_38 rfl (by first | exact Or.inl rfl | exact Or.inr rfl | exact bi_01) ?_
    subst h1
    exact ⟨rfl, bi_congr st_0⟩
  · refine k_tabAt 1 39 C dX4_isSetting_1 (z := 1) h1 rfl rfl rfl (by decide) ?_
    refine k_iload_n 39 40 C dX4_isSetting_39 rfl 1 rfl ?_
    refine k_iconst 40 41 C dX4_isSetting_40 rfl (v := 0) rfl ?_
    refine k_bipush 41 43 C dX4_isSetting_41 rfl (v := 50) rfl ?_
    refine k_callSI 43 46 C [_, _, _] [] dX4_isSetting_43 rfl ct_X4_in mi_X4_in ml_X4_57 st_X4_in rfl rfl ⟨Nat.le_of_ble_eq_true rfl, Nat.le_of_ble_eq_true rfl⟩ (Nat.le_of_ble_eq_true rfl) (Nat.zero_le _) (Nat.zero_le _) (fun r43 V43 p43 => ?_)
    obtain ⟨rfl, rfl⟩ := And.intro p43.1.symm p43.2
    refine k_zret 46 C dX4_isSetting_46 rfl (by first | exact Or.inl rfl | exact Or.inr rfl | exact bi_01) ?_
    subst h1
    exact ⟨rfl, bi_congr st_1⟩
  · refine k_tabAt 1 47 C dX4_isSetting_1 (z := 2) h1 rfl rfl rfl (by decide) ?_
    refine k_iload_n 47 48 C dX4_isSetting_47 rfl 1 rfl ?_
    refine k_bipush 48 50 C dX4_isSetting_48 rfl (v := 10) rfl ?_
    refine k_sipush 50 53 C dX4_isSetting_50 rfl (v := 1000) rfl ?_
    refine k_callSI 53 56 C [_, _, _] [] dX4_isSetting_53 rfl ct_X4_in mi_X4_in ml_X4_57 st_X4_in rfl rfl ⟨Nat.le_of_ble_eq_true rfl, Nat.le_of_ble_eq_true rfl⟩ (Nat.le_of_ble_eq_true rfl) (Nat.zero_le _) (Nat.zero_le _) (fun r53 V53 p53 => ?_)
    obtain ⟨rfl, rfl⟩ := And.intro p53.1.symm p53.2
    refine k_zret 56 C dX4_isSetting_56 rfl (by first | exact Or.inl rfl | exact Or.inr rfl | exact bi_01) ?_
    subst h1
    first
      | exact ⟨rfl, bi_congr st_2⟩
      | exact ⟨rfl, bi_congr st_3⟩
  · refine k_tabAt 1 47 C dX4_isSetting_1 (z := 3) h1 rfl rfl rfl (by decide) ?_
    refine k_iload_n 47 48 C dX4_isSetting_47 rfl 1 rfl ?_
    refine k_bipush 48 50 C dX4_isSetting_48 rfl (v := 10) rfl ?_
    refine k_sipush 50 53 C dX4_isSetting_50 rfl (v := 1000) rfl ?_
    refine k_callSI 53 56 C [_, _, _] [] dX4_isSetting_53 rfl ct_X4_in mi_X4_in ml_X4_57 st_X4_in rfl rfl ⟨Nat.le_of_ble_eq_true rfl, Nat.le_of_ble_eq_true rfl⟩ (Nat.le_of_ble_eq_true rfl) (Nat.zero_le _) (Nat.zero_le _) (fun r53 V53 p53 => ?_)
    obtain ⟨rfl, rfl⟩ := And.intro p53.1.symm p53.2
    refine k_zret 56 C dX4_isSetting_56 rfl (by first | exact Or.inl rfl | exact Or.inr rfl | exact bi_01) ?_
    subst h1
    first
      | exact ⟨rfl, bi_congr st_2⟩
      | exact ⟨rfl, bi_congr st_3⟩
set_option maxHeartbeats 4000000 in
set_option maxRecDepth 100000 in
theorem ct_X4_set {E : gE} {T : gT} {l : Launch} {V : gV} {x v : Int32} {M h : Nat} {f : Nat → Int64} {H : Nat → Nat → Int64} (hM : IsMdl T M) (hf : PQ V M f) (hh : HQ V M h H) : CtI E T l yX4_set (gw yX4_set cX4_set 4 (some .int)) { frames := 2, cells := 0, slots := 0, locals := 45 } [.ref M, .int x, .int v] V (fun (r : Int32) (V' : gV) => r = (mSet f x v).1 ∧ AfM V V' M f h H (mSet f x v).2) := by
  refine ctI_of (L := [(0, .ref M), (1, .int x), (2, .int v)]) (by decide) rfl (Nat.le_of_ble_eq_true rfl) rfl (fun p e s m args below meth c C => ?_)
  refine k_iload_n 0 1 C dX4_set_0 rfl 1 rfl ?_
  refine k_iload_n 1 2 C dX4_set_1 rfl 2 rfl ?_
  refine k_callSI 2 5 C [_, _] [] dX4_set_2 rfl ct_X4_isSetting mi_X4_isSetting ml_X4_69 st_X4_isSetting rfl rfl ⟨Nat.le_of_ble_eq_true rfl, Nat.le_of_ble_eq_true rfl⟩ (Nat.le_of_ble_eq_true rfl) (Nat.zero_le _) (Nat.zero_le _) (fun r2 V2 p2 => ?_)
  obtain ⟨rfl, rfl⟩ := And.intro p2.1.symm p2.2
  refine k_ifb_ne 5 11 8 C dX4_set_5 (by decide) rfl (fun h5 => ?_) (fun h5 => ?_)
  · obtain ⟨w, zw, rfl⟩ : ∃ w, w < 5 ∧ x = nI w := by
      rcases h5 with ⟨rfl, -⟩ | ⟨rfl, -⟩ | ⟨rfl | rfl, -⟩ | ⟨rfl, -⟩
      · exact ⟨0, by decide, rfl⟩
      · exact ⟨1, by decide, rfl⟩
      · exact ⟨2, by decide, rfl⟩
      · exact ⟨3, by decide, rfl⟩
      · exact ⟨4, by decide, rfl⟩
    refine k_aload_n 11 12 C dX4_set_11 rfl 0 rfl ?_
    refine k_callVV 12 15 C [] [] dX4_set_12 rfl (ct_X4_keep hM hf hh) mi_X4_keep ml_X4_62 im_X4_keep se_X4_keep ci_X4 (IsMdl.o ‹_›) rfl rfl ⟨Nat.le_of_ble_eq_true rfl, Nat.le_of_ble_eq_true rfl⟩ (Nat.le_of_ble_eq_true rfl) (Nat.zero_le _) (Nat.zero_le _) (fun V12 p12 => ?_)
    obtain ⟨q12, y12, k12⟩ := p12
    refine k_aload_n 15 16 C dX4_set_15 rfl 0 rfl ?_
    refine k_iconst 16 17 C dX4_set_16 rfl (v := 4) rfl ?_
    refine k_iload_n 17 18 C dX4_set_17 rfl 1 rfl ?_
    refine k_iadd 18 19 C dX4_set_18 rfl  ?_
    refine k_rwI (y := nI (4 + w)) (nI_add 4 w) ?_
    refine k_callVI 19 22 C [_] [] dX4_set_19 rfl (ct_X4_of (k := 4 + w) (by first | omega | (simp only [hdC, ceC]; omega)) hM (q12)) mi_X4_of ml_X4_65 im_X4_of se_X4_of ci_X4 (IsMdl.o ‹_›) rfl rfl ⟨Nat.le_of_ble_eq_true rfl, Nat.le_of_ble_eq_true rfl⟩ (Nat.le_of_ble_eq_true rfl) (Nat.zero_le _) (Nat.zero_le _) (fun r19 V19 p19 => ?_)
    obtain ⟨rfl, rfl⟩ := And.intro p19.1.symm p19.2
    refine k_istore_n 22 23 C [(3, _), (0, _), (1, _), (2, _)] dX4_set_22 rfl (by decide) rfl ?_
    refine k_aload_n 23 24 C dX4_set_23 rfl 1 rfl ?_
    refine k_getF 24 27 C dX4_set_24 rfl ci_X4 0 fl_X4_7 (IsMdl.o ‹_›) (by decide) (IsMdl.f0 ‹_›) rfl ?_
    refine k_iconst 27 28 C dX4_set_27 rfl (v := 4) rfl ?_
    refine k_iload_n 28 29 C dX4_set_28 rfl 2 rfl ?_
    refine k_iadd 29 30 C dX4_set_29 rfl  ?_
    refine k_rwI (y := nI (4 + w)) (nI_add 4 w) ?_
    refine k_iload_n 30 31 C dX4_set_30 rfl 3 rfl ?_
    refine k_i2l 31 32 C dX4_set_31 rfl  ?_
    refine k_lastP 32 33 C dX4_set_32 rfl ‹_› (f := f) (q12) (c0 := 4 + w) (by first | omega | (simp only [hdC, ceC]; omega)) (fun V32 p32 => ?_)
    refine k_iload_n 33 34 C dX4_set_33 rfl 0 rfl ?_
    refine k_iret 34 C dX4_set_34 rfl ?_
    have ee : mSet f (nI w) v = ((f (4 + w)).toInt32, some (va_up f (4 + w) v.toInt64)) := by
      unfold mSet; rw [if_pos h5, nI_clamp (show w < 2 ^ 31 by omega)]
    exact ⟨by rw [ee], by rw [ee]; exact AfM.of y12 k12 (((Pg.rf q12)).trans p32)⟩
  · refine k_ldc 8 10 C dX4_set_8 rfl kc_X4_61 ?_
    refine k_iret 10 C dX4_set_10 rfl ?_
    have ee : mSet f x v = (-2000000001, none) := by
      unfold mSet; rw [if_neg h5]
    exact ⟨by rw [ee], by rw [ee]; exact AfM.no hf hh⟩
set_option maxHeartbeats 4000000 in
set_option maxRecDepth 100000 in
theorem ct_X4_sharpen {E : gE} {T : gT} {l : Launch} {V : gV} {M h : Nat} {f : Nat → Int64} {H : Nat → Nat → Int64} (hM : IsMdl T M) (hf : PQ V M f) (hh : HQ V M h H) : CtI E T l yX4_sharpen (gw yX4_sharpen cX4_sharpen 2 (some .int)) { frames := 2, cells := 0, slots := 0, locals := 45 } [.ref M] V (fun (r : Int32) (V' : gV) => r = (mShp f).1 ∧ AfM V V' M f h H (mShp f).2) := by
  refine ctI_of (L := [(0, .ref M)]) (by decide) rfl (Nat.le_of_ble_eq_true rfl) rfl (fun p e s m args below meth c C => ?_)
  refine k_aload_n 0 1 C dX4_sharpen_0 rfl 0 rfl ?_
  refine k_getF 1 4 C dX4_sharpen_1 rfl ci_X4 0 fl_X4_7 (IsMdl.o ‹_›) (by decide) (IsMdl.f0 ‹_›) rfl ?_
  refine k_bipush 4 6 C dX4_sharpen_4 rfl (v := 10) rfl ?_
  refine k_laldP 6 7 C dX4_sharpen_6 rfl ‹_› (f := f) (hf) (c0 := 10) (by first | omega | (simp only [hdC, ceC]; omega)) ?_
  refine k_ldc2 7 10 C dX4_sharpen_7 rfl kl_X4_82 ?_
  refine k_lcmp_ne 10 11 17 14 C dX4_sharpen_10 rfl dX4_sharpen_11 (by decide) rfl (fun h11 => ?_) (fun h11 => ?_)
  · refine k_aload_n 17 18 C dX4_sharpen_17 rfl 0 rfl ?_
    refine k_callVV 18 21 C [] [] dX4_sharpen_18 rfl (ct_X4_keep hM hf hh) mi_X4_keep ml_X4_62 im_X4_keep se_X4_keep ci_X4 (IsMdl.o ‹_›) rfl rfl ⟨Nat.le_of_ble_eq_true rfl, Nat.le_of_ble_eq_true rfl⟩ (Nat.le_of_ble_eq_true rfl) (Nat.zero_le _) (Nat.zero_le _) (fun V18 p18 => ?_)
    obtain ⟨q18, y18, k18⟩ := p18
    refine k_aload_n 21 22 C dX4_sharpen_21 rfl 0 rfl ?_
    refine k_bipush 22 24 C dX4_sharpen_22 rfl (v := 9) rfl ?_
    refine k_callVI 24 27 C [_] [] dX4_sharpen_24 rfl (ct_X4_of (k := 9) (by first | omega | (simp only [hdC, ceC]; omega)) hM (q18)) mi_X4_of ml_X4_65 im_X4_of se_X4_of ci_X4 (IsMdl.o ‹_›) rfl rfl ⟨Nat.le_of_ble_eq_true rfl, Nat.le_of_ble_eq_true rfl⟩ (Nat.le_of_ble_eq_true rfl) (Nat.zero_le _) (Nat.zero_le _) (fun r24 V24 p24 => ?_)
    obtain ⟨rfl, rfl⟩ := And.intro p24.1.symm p24.2
    refine k_istore_n 27 28 C [(1, _), (0, _)] dX4_sharpen_27 rfl (by decide) rfl ?_
    refine k_aload_n 28 29 C dX4_sharpen_28 rfl 1 rfl ?_
    refine k_getF 29 32 C dX4_sharpen_29 rfl ci_X4 0 fl_X4_7 (IsMdl.o ‹_›) (by decide) (IsMdl.f0 ‹_›) rfl ?_
    refine k_bipush 32 34 C dX4_sharpen_32 rfl (v := 10) rfl ?_
    refine k_dup2 34 35 C dX4_sharpen_34 rfl rfl rfl ?_
    refine k_laldP 35 36 C dX4_sharpen_35 rfl ‹_› (f := f) (q18) (c0 := 10) (by first | omega | (simp only [hdC, ceC]; omega)) ?_
    refine k_lconst 36 37 C dX4_sharpen_36 rfl (v := 1) rfl ?_
    refine k_ladd 37 38 C dX4_sharpen_37 rfl  ?_
    refine k_lastP 38 39 C dX4_sharpen_38 rfl ‹_› (f := f) (q18) (c0 := 10) (by first | omega | (simp only [hdC, ceC]; omega)) (fun V38 p38 => ?_)
    refine k_aload_n 39 40 C dX4_sharpen_39 rfl 1 rfl ?_
    refine k_getF 40 43 C dX4_sharpen_40 rfl ci_X4 0 fl_X4_7 (IsMdl.o ‹_›) (by decide) (IsMdl.f0 ‹_›) rfl ?_
    refine k_bipush 43 45 C dX4_sharpen_43 rfl (v := 9) rfl ?_
    refine k_lconst 45 46 C dX4_sharpen_45 rfl (v := 0) rfl ?_
    refine k_lastP 46 47 C dX4_sharpen_46 rfl ‹_› (f := va_up (f) (10) (_)) (p38.2.2.2) (c0 := 9) (by first | omega | (simp only [hdC, ceC]; omega)) (fun V46 p46 => ?_)
    refine k_iload_n 47 48 C dX4_sharpen_47 rfl 0 rfl ?_
    refine k_iret 48 C dX4_sharpen_48 rfl ?_
    have ee : mShp f = ((f 9).toInt32, some (va_up (va_up f 10 (f 10 + 1)) 9 0)) := by
      unfold mShp; rw [if_neg h11]
    exact ⟨by rw [ee], by rw [ee]; exact AfM.of y18 k18 ((((Pg.rf q18)).trans p38).trans p46)⟩
  · refine k_ldc 14 16 C dX4_sharpen_14 rfl kc_X4_84 ?_
    refine k_iret 16 C dX4_sharpen_16 rfl ?_
    have ee : mShp f = (-2000000003, none) := by
      unfold mShp; rw [if_pos h11]
    exact ⟨by rw [ee], by rw [ee]; exact AfM.no hf hh⟩
set_option maxHeartbeats 4000000 in
set_option maxRecDepth 100000 in
theorem ct_X4_count {E : gE} {T : gT} {l : Launch} {V : gV} {x : Int32} {zn : Nat} {M h : Nat} {f : Nat → Int64} {H : Nat → Nat → Int64} (hM : IsMdl T M) (hf : PQ V M f) (hh : HQ V M h H) (hs : ¬ f 8 = 0) (hz : V.1 M 5 = nI zn) : CtI E T l yX4_count (gw yX4_count cX4_count 2 (some .int)) { frames := 1, cells := 0, slots := 0, locals := 22 } [.ref M, .int x] V (fun (r : Int32) (V' : gV) => V' = V ∧ r = mCnt f h zn x) := by
  refine ctI_of (L := [(0, .ref M), (1, .int x)]) (by decide) rfl (Nat.le_of_ble_eq_true rfl) rfl (fun p e s m args below meth c C => ?_)
  refine k_iload_n 0 1 C dX4_count_0 rfl 1 rfl ?_
  refine k_switch18 1 C (fun h1 => ?_) (fun h1 => ?_) (fun h1 => ?_) (fun h1 => ?_) (fun h1 => ?_) (fun h1 => ?_) (fun h1 => ?_) (fun h1 => ?_) (fun h1 => ?_) (fun h1 => ?_) (fun h1 => ?_) (fun h1 => ?_) (fun h1 => ?_) (fun h1 => ?_) (fun h1 => ?_) (fun h1 => ?_) (fun h1 => ?_) (fun h1 => ?_) (fun h1 => ?_)
  · refine k_tabOut 1 140 C dX4_count_1 h1 (by decide) ?_
    refine k_iload_n 140 141 C dX4_count_140 rfl 1 rfl ?_
    refine k_iconst 141 142 C dX4_count_141 rfl (v := 1) rfl ?_
    refine k_bipush 142 144 C dX4_count_142 rfl (v := 10) rfl ?_
    refine k_callSI 144 147 C [_, _, _] [] dX4_count_144 rfl ct_X4_in mi_X4_in ml_X4_57 st_X4_in rfl rfl ⟨Nat.le_of_ble_eq_true rfl, Nat.le_of_ble_eq_true rfl⟩ (Nat.le_of_ble_eq_true rfl) (Nat.zero_le _) (Nat.zero_le _) (fun r144 V144 p144 => ?_)
    obtain ⟨rfl, rfl⟩ := And.intro p144.1.symm p144.2
    refine k_ifb_eq 147 160 150 C dX4_count_147 (by decide) rfl (fun h147 => ?_) (fun h147 => ?_)
    · have z0 : mCnt f h zn x = -2000000001 := by
        first
        | exact mCnt_out h1 h147
        | (subst h1; exact absurd (by decide) h147)
      refine k_ldc 160 162 C dX4_count_160 rfl kc_X4_61 ?_
      refine k_iret 162 C dX4_count_162 rfl ?_
      first
        | exact ⟨rfl, z0.symm⟩
        | exact ⟨rfl, (mCnt_in zj).symm⟩
    · obtain ⟨j, zj, rfl⟩ := ok_n h147
      refine k_aload_n 150 151 C dX4_count_150 rfl 0 rfl ?_
      refine k_iload_n 151 152 C dX4_count_151 rfl 1 rfl ?_
      refine k_iconst 152 153 C dX4_count_152 rfl (v := 1) rfl ?_
      refine k_isub 153 154 C dX4_count_153 rfl  ?_
      refine k_rwI (y := nI j) (pk_sub (a := j + 1) (b := 1) (by omega)) ?_
      refine k_callVI 154 157 C [_] [] dX4_count_154 rfl (ct_X4_of (k := j) (by first | omega | (simp only [hdC, ceC]; omega)) hM (hf)) mi_X4_of ml_X4_65 im_X4_of se_X4_of ci_X4 (IsMdl.o ‹_›) rfl rfl ⟨Nat.le_of_ble_eq_true rfl, Nat.le_of_ble_eq_true rfl⟩ (Nat.le_of_ble_eq_true rfl) (Nat.zero_le _) (Nat.zero_le _) (fun r154 V154 p154 => ?_)
      obtain ⟨rfl, rfl⟩ := And.intro p154.1.symm p154.2
      refine k_goto 157 162 C dX4_count_157 (by decide) ?_
      refine k_iret 162 C dX4_count_162 rfl ?_
      first
        | exact ⟨rfl, z0.symm⟩
        | exact ⟨rfl, (mCnt_in zj).symm⟩
  · refine k_tabAt 1 88 C dX4_count_1 (z := 0) h1 rfl rfl rfl (by decide) ?_
    refine k_aload_n 88 89 C dX4_count_88 rfl 0 rfl ?_
    refine k_bipush 89 91 C dX4_count_89 rfl (v := 14) rfl ?_
    refine k_callVI 91 94 C [_] [] dX4_count_91 rfl (ct_X4_of (k := 14) (by first | omega | (simp only [hdC, ceC]; omega)) hM (hf)) mi_X4_of ml_X4_65 im_X4_of se_X4_of ci_X4 (IsMdl.o ‹_›) rfl rfl ⟨Nat.le_of_ble_eq_true rfl, Nat.le_of_ble_eq_true rfl⟩ (Nat.le_of_ble_eq_true rfl) (Nat.zero_le _) (Nat.zero_le _) (fun r91 V91 p91 => ?_)
    obtain ⟨rfl, rfl⟩ := And.intro p91.1.symm p91.2
    refine k_iret 94 C dX4_count_94 rfl ?_
    subst h1
    exact ⟨rfl, rfl⟩
  · refine k_tabAt 1 140 C dX4_count_1 (z := 1) h1 rfl rfl rfl (by decide) ?_
    refine k_iload_n 140 141 C dX4_count_140 rfl 1 rfl ?_
    refine k_iconst 141 142 C dX4_count_141 rfl (v := 1) rfl ?_
    refine k_bipush 142 144 C dX4_count_142 rfl (v := 10) rfl ?_
    refine k_callSI 144 147 C [_, _, _] [] dX4_count_144 rfl ct_X4_in mi_X4_in ml_X4_57 st_X4_in rfl rfl ⟨Nat.le_of_ble_eq_true rfl, Nat.le_of_ble_eq_true rfl⟩ (Nat.le_of_ble_eq_true rfl) (Nat.zero_le _) (Nat.zero_le _) (fun r144 V144 p144 => ?_)
    obtain ⟨rfl, rfl⟩ := And.intro p144.1.symm p144.2
    refine k_ifb_eq 147 160 150 C dX4_count_147 (by decide) rfl (fun h147 => ?_) (fun h147 => ?_)
    · have z0 : mCnt f h zn x = -2000000001 := by
        first
        | exact mCnt_out h1 h147
        | (subst h1; exact absurd (by decide) h147)
      refine k_ldc 160 162 C dX4_count_160 rfl kc_X4_61 ?_
      refine k_iret 162 C dX4_count_162 rfl ?_
      first
        | exact ⟨rfl, z0.symm⟩
        | exact ⟨rfl, (mCnt_in zj).symm⟩
    · obtain ⟨j, zj, rfl⟩ := ok_n h147
      refine k_aload_n 150 151 C dX4_count_150 rfl 0 rfl ?_
      refine k_iload_n 151 152 C dX4_count_151 rfl 1 rfl ?_
      refine k_iconst 152 153 C dX4_count_152 rfl (v := 1) rfl ?_
      refine k_isub 153 154 C dX4_count_153 rfl  ?_
      refine k_rwI (y := nI j) (pk_sub (a := j + 1) (b := 1) (by omega)) ?_
      refine k_callVI 154 157 C [_] [] dX4_count_154 rfl (ct_X4_of (k := j) (by first | omega | (simp only [hdC, ceC]; omega)) hM (hf)) mi_X4_of ml_X4_65 im_X4_of se_X4_of ci_X4 (IsMdl.o ‹_›) rfl rfl ⟨Nat.le_of_ble_eq_true rfl, Nat.le_of_ble_eq_true rfl⟩ (Nat.le_of_ble_eq_true rfl) (Nat.zero_le _) (Nat.zero_le _) (fun r154 V154 p154 => ?_)
      obtain ⟨rfl, rfl⟩ := And.intro p154.1.symm p154.2
      refine k_goto 157 162 C dX4_count_157 (by decide) ?_
      refine k_iret 162 C dX4_count_162 rfl ?_
      first
        | exact ⟨rfl, z0.symm⟩
        | exact ⟨rfl, (mCnt_in zj).symm⟩
  · refine k_tabAt 1 140 C dX4_count_1 (z := 2) h1 rfl rfl rfl (by decide) ?_
    refine k_iload_n 140 141 C dX4_count_140 rfl 1 rfl ?_
    refine k_iconst 141 142 C dX4_count_141 rfl (v := 1) rfl ?_
    refine k_bipush 142 144 C dX4_count_142 rfl (v := 10) rfl ?_
    refine k_callSI 144 147 C [_, _, _] [] dX4_count_144 rfl ct_X4_in mi_X4_in ml_X4_57 st_X4_in rfl rfl ⟨Nat.le_of_ble_eq_true rfl, Nat.le_of_ble_eq_true rfl⟩ (Nat.le_of_ble_eq_true rfl) (Nat.zero_le _) (Nat.zero_le _) (fun r144 V144 p144 => ?_)
    obtain ⟨rfl, rfl⟩ := And.intro p144.1.symm p144.2
    refine k_ifb_eq 147 160 150 C dX4_count_147 (by decide) rfl (fun h147 => ?_) (fun h147 => ?_)
    · have z0 : mCnt f h zn x = -2000000001 := by
        first
        | exact mCnt_out h1 h147
        | (subst h1; exact absurd (by decide) h147)
      refine k_ldc 160 162 C dX4_count_160 rfl kc_X4_61 ?_
      refine k_iret 162 C dX4_count_162 rfl ?_
      first
        | exact ⟨rfl, z0.symm⟩
        | exact ⟨rfl, (mCnt_in zj).symm⟩
    · obtain ⟨j, zj, rfl⟩ := ok_n h147
      refine k_aload_n 150 151 C dX4_count_150 rfl 0 rfl ?_
      refine k_iload_n 151 152 C dX4_count_151 rfl 1 rfl ?_
      refine k_iconst 152 153 C dX4_count_152 rfl (v := 1) rfl ?_
      refine k_isub 153 154 C dX4_count_153 rfl  ?_
      refine k_rwI (y := nI j) (pk_sub (a := j + 1) (b := 1) (by omega)) ?_
      refine k_callVI 154 157 C [_] [] dX4_count_154 rfl (ct_X4_of (k := j) (by first | omega | (simp only [hdC, ceC]; omega)) hM (hf)) mi_X4_of ml_X4_65 im_X4_of se_X4_of ci_X4 (IsMdl.o ‹_›) rfl rfl ⟨Nat.le_of_ble_eq_true rfl, Nat.le_of_ble_eq_true rfl⟩ (Nat.le_of_ble_eq_true rfl) (Nat.zero_le _) (Nat.zero_le _) (fun r154 V154 p154 => ?_)
      obtain ⟨rfl, rfl⟩ := And.intro p154.1.symm p154.2
      refine k_goto 157 162 C dX4_count_157 (by decide) ?_
      refine k_iret 162 C dX4_count_162 rfl ?_
      first
        | exact ⟨rfl, z0.symm⟩
        | exact ⟨rfl, (mCnt_in zj).symm⟩
  · refine k_tabAt 1 140 C dX4_count_1 (z := 3) h1 rfl rfl rfl (by decide) ?_
    refine k_iload_n 140 141 C dX4_count_140 rfl 1 rfl ?_
    refine k_iconst 141 142 C dX4_count_141 rfl (v := 1) rfl ?_
    refine k_bipush 142 144 C dX4_count_142 rfl (v := 10) rfl ?_
    refine k_callSI 144 147 C [_, _, _] [] dX4_count_144 rfl ct_X4_in mi_X4_in ml_X4_57 st_X4_in rfl rfl ⟨Nat.le_of_ble_eq_true rfl, Nat.le_of_ble_eq_true rfl⟩ (Nat.le_of_ble_eq_true rfl) (Nat.zero_le _) (Nat.zero_le _) (fun r144 V144 p144 => ?_)
    obtain ⟨rfl, rfl⟩ := And.intro p144.1.symm p144.2
    refine k_ifb_eq 147 160 150 C dX4_count_147 (by decide) rfl (fun h147 => ?_) (fun h147 => ?_)
    · have z0 : mCnt f h zn x = -2000000001 := by
        first
        | exact mCnt_out h1 h147
        | (subst h1; exact absurd (by decide) h147)
      refine k_ldc 160 162 C dX4_count_160 rfl kc_X4_61 ?_
      refine k_iret 162 C dX4_count_162 rfl ?_
      first
        | exact ⟨rfl, z0.symm⟩
        | exact ⟨rfl, (mCnt_in zj).symm⟩
    · obtain ⟨j, zj, rfl⟩ := ok_n h147
      refine k_aload_n 150 151 C dX4_count_150 rfl 0 rfl ?_
      refine k_iload_n 151 152 C dX4_count_151 rfl 1 rfl ?_
      refine k_iconst 152 153 C dX4_count_152 rfl (v := 1) rfl ?_
      refine k_isub 153 154 C dX4_count_153 rfl  ?_
      refine k_rwI (y := nI j) (pk_sub (a := j + 1) (b := 1) (by omega)) ?_
      refine k_callVI 154 157 C [_] [] dX4_count_154 rfl (ct_X4_of (k := j) (by first | omega | (simp only [hdC, ceC]; omega)) hM (hf)) mi_X4_of ml_X4_65 im_X4_of se_X4_of ci_X4 (IsMdl.o ‹_›) rfl rfl ⟨Nat.le_of_ble_eq_true rfl, Nat.le_of_ble_eq_true rfl⟩ (Nat.le_of_ble_eq_true rfl) (Nat.zero_le _) (Nat.zero_le _) (fun r154 V154 p154 => ?_)
      obtain ⟨rfl, rfl⟩ := And.intro p154.1.symm p154.2
      refine k_goto 157 162 C dX4_count_157 (by decide) ?_
      refine k_iret 162 C dX4_count_162 rfl ?_
      first
        | exact ⟨rfl, z0.symm⟩
        | exact ⟨rfl, (mCnt_in zj).symm⟩
  · refine k_tabAt 1 140 C dX4_count_1 (z := 4) h1 rfl rfl rfl (by decide) ?_
    refine k_iload_n 140 141 C dX4_count_140 rfl 1 rfl ?_
    refine k_iconst 141 142 C dX4_count_141 rfl (v := 1) rfl ?_
    refine k_bipush 142 144 C dX4_count_142 rfl (v := 10) rfl ?_
    refine k_callSI 144 147 C [_, _, _] [] dX4_count_144 rfl ct_X4_in mi_X4_in ml_X4_57 st_X4_in rfl rfl ⟨Nat.le_of_ble_eq_true rfl, Nat.le_of_ble_eq_true rfl⟩ (Nat.le_of_ble_eq_true rfl) (Nat.zero_le _) (Nat.zero_le _) (fun r144 V144 p144 => ?_)
    obtain ⟨rfl, rfl⟩ := And.intro p144.1.symm p144.2
    refine k_ifb_eq 147 160 150 C dX4_count_147 (by decide) rfl (fun h147 => ?_) (fun h147 => ?_)
    · have z0 : mCnt f h zn x = -2000000001 := by
        first
        | exact mCnt_out h1 h147
        | (subst h1; exact absurd (by decide) h147)
      refine k_ldc 160 162 C dX4_count_160 rfl kc_X4_61 ?_
      refine k_iret 162 C dX4_count_162 rfl ?_
      first
        | exact ⟨rfl, z0.symm⟩
        | exact ⟨rfl, (mCnt_in zj).symm⟩
    · obtain ⟨j, zj, rfl⟩ := ok_n h147
      refine k_aload_n 150 151 C dX4_count_150 rfl 0 rfl ?_
      refine k_iload_n 151 152 C dX4_count_151 rfl 1 rfl ?_
      refine k_iconst 152 153 C dX4_count_152 rfl (v := 1) rfl ?_
      refine k_isub 153 154 C dX4_count_153 rfl  ?_
      refine k_rwI (y := nI j) (pk_sub (a := j + 1) (b := 1) (by omega)) ?_
      refine k_callVI 154 157 C [_] [] dX4_count_154 rfl (ct_X4_of (k := j) (by first | omega | (simp only [hdC, ceC]; omega)) hM (hf)) mi_X4_of ml_X4_65 im_X4_of se_X4_of ci_X4 (IsMdl.o ‹_›) rfl rfl ⟨Nat.le_of_ble_eq_true rfl, Nat.le_of_ble_eq_true rfl⟩ (Nat.le_of_ble_eq_true rfl) (Nat.zero_le _) (Nat.zero_le _) (fun r154 V154 p154 => ?_)
      obtain ⟨rfl, rfl⟩ := And.intro p154.1.symm p154.2
      refine k_goto 157 162 C dX4_count_157 (by decide) ?_
      refine k_iret 162 C dX4_count_162 rfl ?_
      first
        | exact ⟨rfl, z0.symm⟩
        | exact ⟨rfl, (mCnt_in zj).symm⟩
  · refine k_tabAt 1 140 C dX4_count_1 (z := 5) h1 rfl rfl rfl (by decide) ?_
    refine k_iload_n 140 141 C dX4_count_140 rfl 1 rfl ?_
    refine k_iconst 141 142 C dX4_count_141 rfl (v := 1) rfl ?_
    refine k_bipush 142 144 C dX4_count_142 rfl (v := 10) rfl ?_
    refine k_callSI 144 147 C [_, _, _] [] dX4_count_144 rfl ct_X4_in mi_X4_in ml_X4_57 st_X4_in rfl rfl ⟨Nat.le_of_ble_eq_true rfl, Nat.le_of_ble_eq_true rfl⟩ (Nat.le_of_ble_eq_true rfl) (Nat.zero_le _) (Nat.zero_le _) (fun r144 V144 p144 => ?_)
    obtain ⟨rfl, rfl⟩ := And.intro p144.1.symm p144.2
    refine k_ifb_eq 147 160 150 C dX4_count_147 (by decide) rfl (fun h147 => ?_) (fun h147 => ?_)
    · have z0 : mCnt f h zn x = -2000000001 := by
        first
        | exact mCnt_out h1 h147
        | (subst h1; exact absurd (by decide) h147)
      refine k_ldc 160 162 C dX4_count_160 rfl kc_X4_61 ?_
      refine k_iret 162 C dX4_count_162 rfl ?_
      first
        | exact ⟨rfl, z0.symm⟩
        | exact ⟨rfl, (mCnt_in zj).symm⟩
    · obtain ⟨j, zj, rfl⟩ := ok_n h147
      refine k_aload_n 150 151 C dX4_count_150 rfl 0 rfl ?_
      refine k_iload_n 151 152 C dX4_count_151 rfl 1 rfl ?_
      refine k_iconst 152 153 C dX4_count_152 rfl (v := 1) rfl ?_
      refine k_isub 153 154 C dX4_count_153 rfl  ?_
      refine k_rwI (y := nI j) (pk_sub (a := j + 1) (b := 1) (by omega)) ?_
      refine k_callVI 154 157 C [_] [] dX4_count_154 rfl (ct_X4_of (k := j) (by first | omega | (simp only [hdC, ceC]; omega)) hM (hf)) mi_X4_of ml_X4_65 im_X4_of se_X4_of ci_X4 (IsMdl.o ‹_›) rfl rfl ⟨Nat.le_of_ble_eq_true rfl, Nat.le_of_ble_eq_true rfl⟩ (Nat.le_of_ble_eq_true rfl) (Nat.zero_le _) (Nat.zero_le _) (fun r154 V154 p154 => ?_)
      obtain ⟨rfl, rfl⟩ := And.intro p154.1.symm p154.2
      refine k_goto 157 162 C dX4_count_157 (by decide) ?_
      refine k_iret 162 C dX4_count_162 rfl ?_
      first
        | exact ⟨rfl, z0.symm⟩
        | exact ⟨rfl, (mCnt_in zj).symm⟩
  · refine k_tabAt 1 140 C dX4_count_1 (z := 6) h1 rfl rfl rfl (by decide) ?_
    refine k_iload_n 140 141 C dX4_count_140 rfl 1 rfl ?_
    refine k_iconst 141 142 C dX4_count_141 rfl (v := 1) rfl ?_
    refine k_bipush 142 144 C dX4_count_142 rfl (v := 10) rfl ?_
    refine k_callSI 144 147 C [_, _, _] [] dX4_count_144 rfl ct_X4_in mi_X4_in ml_X4_57 st_X4_in rfl rfl ⟨Nat.le_of_ble_eq_true rfl, Nat.le_of_ble_eq_true rfl⟩ (Nat.le_of_ble_eq_true rfl) (Nat.zero_le _) (Nat.zero_le _) (fun r144 V144 p144 => ?_)
    obtain ⟨rfl, rfl⟩ := And.intro p144.1.symm p144.2
    refine k_ifb_eq 147 160 150 C dX4_count_147 (by decide) rfl (fun h147 => ?_) (fun h147 => ?_)
    · have z0 : mCnt f h zn x = -2000000001 := by
        first
        | exact mCnt_out h1 h147
        | (subst h1; exact absurd (by decide) h147)
      refine k_ldc 160 162 C dX4_count_160 rfl kc_X4_61 ?_
      refine k_iret 162 C dX4_count_162 rfl ?_
      first
        | exact ⟨rfl, z0.symm⟩
        | exact ⟨rfl, (mCnt_in zj).symm⟩
    · obtain ⟨j, zj, rfl⟩ := ok_n h147
      refine k_aload_n 150 151 C dX4_count_150 rfl 0 rfl ?_
      refine k_iload_n 151 152 C dX4_count_151 rfl 1 rfl ?_
      refine k_iconst 152 153 C dX4_count_152 rfl (v := 1) rfl ?_
      refine k_isub 153 154 C dX4_count_153 rfl  ?_
      refine k_rwI (y := nI j) (pk_sub (a := j + 1) (b := 1) (by omega)) ?_
      refine k_callVI 154 157 C [_] [] dX4_count_154 rfl (ct_X4_of (k := j) (by first | omega | (simp only [hdC, ceC]; omega)) hM (hf)) mi_X4_of ml_X4_65 im_X4_of se_X4_of ci_X4 (IsMdl.o ‹_›) rfl rfl ⟨Nat.le_of_ble_eq_true rfl, Nat.le_of_ble_eq_true rfl⟩ (Nat.le_of_ble_eq_true rfl) (Nat.zero_le _) (Nat.zero_le _) (fun r154 V154 p154 => ?_)
      obtain ⟨rfl, rfl⟩ := And.intro p154.1.symm p154.2
      refine k_goto 157 162 C dX4_count_157 (by decide) ?_
      refine k_iret 162 C dX4_count_162 rfl ?_
      first
        | exact ⟨rfl, z0.symm⟩
        | exact ⟨rfl, (mCnt_in zj).symm⟩
  · refine k_tabAt 1 140 C dX4_count_1 (z := 7) h1 rfl rfl rfl (by decide) ?_
    refine k_iload_n 140 141 C dX4_count_140 rfl 1 rfl ?_
    refine k_iconst 141 142 C dX4_count_141 rfl (v := 1) rfl ?_
    refine k_bipush 142 144 C dX4_count_142 rfl (v := 10) rfl ?_
    refine k_callSI 144 147 C [_, _, _] [] dX4_count_144 rfl ct_X4_in mi_X4_in ml_X4_57 st_X4_in rfl rfl ⟨Nat.le_of_ble_eq_true rfl, Nat.le_of_ble_eq_true rfl⟩ (Nat.le_of_ble_eq_true rfl) (Nat.zero_le _) (Nat.zero_le _) (fun r144 V144 p144 => ?_)
    obtain ⟨rfl, rfl⟩ := And.intro p144.1.symm p144.2
    refine k_ifb_eq 147 160 150 C dX4_count_147 (by decide) rfl (fun h147 => ?_) (fun h147 => ?_)
    · have z0 : mCnt f h zn x = -2000000001 := by
        first
        | exact mCnt_out h1 h147
        | (subst h1; exact absurd (by decide) h147)
      refine k_ldc 160 162 C dX4_count_160 rfl kc_X4_61 ?_
      refine k_iret 162 C dX4_count_162 rfl ?_
      first
        | exact ⟨rfl, z0.symm⟩
        | exact ⟨rfl, (mCnt_in zj).symm⟩
    · obtain ⟨j, zj, rfl⟩ := ok_n h147
      refine k_aload_n 150 151 C dX4_count_150 rfl 0 rfl ?_
      refine k_iload_n 151 152 C dX4_count_151 rfl 1 rfl ?_
      refine k_iconst 152 153 C dX4_count_152 rfl (v := 1) rfl ?_
      refine k_isub 153 154 C dX4_count_153 rfl  ?_
      refine k_rwI (y := nI j) (pk_sub (a := j + 1) (b := 1) (by omega)) ?_
      refine k_callVI 154 157 C [_] [] dX4_count_154 rfl (ct_X4_of (k := j) (by first | omega | (simp only [hdC, ceC]; omega)) hM (hf)) mi_X4_of ml_X4_65 im_X4_of se_X4_of ci_X4 (IsMdl.o ‹_›) rfl rfl ⟨Nat.le_of_ble_eq_true rfl, Nat.le_of_ble_eq_true rfl⟩ (Nat.le_of_ble_eq_true rfl) (Nat.zero_le _) (Nat.zero_le _) (fun r154 V154 p154 => ?_)
      obtain ⟨rfl, rfl⟩ := And.intro p154.1.symm p154.2
      refine k_goto 157 162 C dX4_count_157 (by decide) ?_
      refine k_iret 162 C dX4_count_162 rfl ?_
      first
        | exact ⟨rfl, z0.symm⟩
        | exact ⟨rfl, (mCnt_in zj).symm⟩
  · refine k_tabAt 1 140 C dX4_count_1 (z := 8) h1 rfl rfl rfl (by decide) ?_
    refine k_iload_n 140 141 C dX4_count_140 rfl 1 rfl ?_
    refine k_iconst 141 142 C dX4_count_141 rfl (v := 1) rfl ?_
    refine k_bipush 142 144 C dX4_count_142 rfl (v := 10) rfl ?_
    refine k_callSI 144 147 C [_, _, _] [] dX4_count_144 rfl ct_X4_in mi_X4_in ml_X4_57 st_X4_in rfl rfl ⟨Nat.le_of_ble_eq_true rfl, Nat.le_of_ble_eq_true rfl⟩ (Nat.le_of_ble_eq_true rfl) (Nat.zero_le _) (Nat.zero_le _) (fun r144 V144 p144 => ?_)
    obtain ⟨rfl, rfl⟩ := And.intro p144.1.symm p144.2
    refine k_ifb_eq 147 160 150 C dX4_count_147 (by decide) rfl (fun h147 => ?_) (fun h147 => ?_)
    · have z0 : mCnt f h zn x = -2000000001 := by
        first
        | exact mCnt_out h1 h147
        | (subst h1; exact absurd (by decide) h147)
      refine k_ldc 160 162 C dX4_count_160 rfl kc_X4_61 ?_
      refine k_iret 162 C dX4_count_162 rfl ?_
      first
        | exact ⟨rfl, z0.symm⟩
        | exact ⟨rfl, (mCnt_in zj).symm⟩
    · obtain ⟨j, zj, rfl⟩ := ok_n h147
      refine k_aload_n 150 151 C dX4_count_150 rfl 0 rfl ?_
      refine k_iload_n 151 152 C dX4_count_151 rfl 1 rfl ?_
      refine k_iconst 152 153 C dX4_count_152 rfl (v := 1) rfl ?_
      refine k_isub 153 154 C dX4_count_153 rfl  ?_
      refine k_rwI (y := nI j) (pk_sub (a := j + 1) (b := 1) (by omega)) ?_
      refine k_callVI 154 157 C [_] [] dX4_count_154 rfl (ct_X4_of (k := j) (by first | omega | (simp only [hdC, ceC]; omega)) hM (hf)) mi_X4_of ml_X4_65 im_X4_of se_X4_of ci_X4 (IsMdl.o ‹_›) rfl rfl ⟨Nat.le_of_ble_eq_true rfl, Nat.le_of_ble_eq_true rfl⟩ (Nat.le_of_ble_eq_true rfl) (Nat.zero_le _) (Nat.zero_le _) (fun r154 V154 p154 => ?_)
      obtain ⟨rfl, rfl⟩ := And.intro p154.1.symm p154.2
      refine k_goto 157 162 C dX4_count_157 (by decide) ?_
      refine k_iret 162 C dX4_count_162 rfl ?_
      first
        | exact ⟨rfl, z0.symm⟩
        | exact ⟨rfl, (mCnt_in zj).symm⟩
  · refine k_tabAt 1 140 C dX4_count_1 (z := 9) h1 rfl rfl rfl (by decide) ?_
    refine k_iload_n 140 141 C dX4_count_140 rfl 1 rfl ?_
    refine k_iconst 141 142 C dX4_count_141 rfl (v := 1) rfl ?_
    refine k_bipush 142 144 C dX4_count_142 rfl (v := 10) rfl ?_
    refine k_callSI 144 147 C [_, _, _] [] dX4_count_144 rfl ct_X4_in mi_X4_in ml_X4_57 st_X4_in rfl rfl ⟨Nat.le_of_ble_eq_true rfl, Nat.le_of_ble_eq_true rfl⟩ (Nat.le_of_ble_eq_true rfl) (Nat.zero_le _) (Nat.zero_le _) (fun r144 V144 p144 => ?_)
    obtain ⟨rfl, rfl⟩ := And.intro p144.1.symm p144.2
    refine k_ifb_eq 147 160 150 C dX4_count_147 (by decide) rfl (fun h147 => ?_) (fun h147 => ?_)
    · have z0 : mCnt f h zn x = -2000000001 := by
        first
        | exact mCnt_out h1 h147
        | (subst h1; exact absurd (by decide) h147)
      refine k_ldc 160 162 C dX4_count_160 rfl kc_X4_61 ?_
      refine k_iret 162 C dX4_count_162 rfl ?_
      first
        | exact ⟨rfl, z0.symm⟩
        | exact ⟨rfl, (mCnt_in zj).symm⟩
    · obtain ⟨j, zj, rfl⟩ := ok_n h147
      refine k_aload_n 150 151 C dX4_count_150 rfl 0 rfl ?_
      refine k_iload_n 151 152 C dX4_count_151 rfl 1 rfl ?_
      refine k_iconst 152 153 C dX4_count_152 rfl (v := 1) rfl ?_
      refine k_isub 153 154 C dX4_count_153 rfl  ?_
      refine k_rwI (y := nI j) (pk_sub (a := j + 1) (b := 1) (by omega)) ?_
      refine k_callVI 154 157 C [_] [] dX4_count_154 rfl (ct_X4_of (k := j) (by first | omega | (simp only [hdC, ceC]; omega)) hM (hf)) mi_X4_of ml_X4_65 im_X4_of se_X4_of ci_X4 (IsMdl.o ‹_›) rfl rfl ⟨Nat.le_of_ble_eq_true rfl, Nat.le_of_ble_eq_true rfl⟩ (Nat.le_of_ble_eq_true rfl) (Nat.zero_le _) (Nat.zero_le _) (fun r154 V154 p154 => ?_)
      obtain ⟨rfl, rfl⟩ := And.intro p154.1.symm p154.2
      refine k_goto 157 162 C dX4_count_157 (by decide) ?_
      refine k_iret 162 C dX4_count_162 rfl ?_
      first
        | exact ⟨rfl, z0.symm⟩
        | exact ⟨rfl, (mCnt_in zj).symm⟩
  · refine k_tabAt 1 140 C dX4_count_1 (z := 10) h1 rfl rfl rfl (by decide) ?_
    refine k_iload_n 140 141 C dX4_count_140 rfl 1 rfl ?_
    refine k_iconst 141 142 C dX4_count_141 rfl (v := 1) rfl ?_
    refine k_bipush 142 144 C dX4_count_142 rfl (v := 10) rfl ?_
    refine k_callSI 144 147 C [_, _, _] [] dX4_count_144 rfl ct_X4_in mi_X4_in ml_X4_57 st_X4_in rfl rfl ⟨Nat.le_of_ble_eq_true rfl, Nat.le_of_ble_eq_true rfl⟩ (Nat.le_of_ble_eq_true rfl) (Nat.zero_le _) (Nat.zero_le _) (fun r144 V144 p144 => ?_)
    obtain ⟨rfl, rfl⟩ := And.intro p144.1.symm p144.2
    refine k_ifb_eq 147 160 150 C dX4_count_147 (by decide) rfl (fun h147 => ?_) (fun h147 => ?_)
    · have z0 : mCnt f h zn x = -2000000001 := by
        first
        | exact mCnt_out h1 h147
        | (subst h1; exact absurd (by decide) h147)
      refine k_ldc 160 162 C dX4_count_160 rfl kc_X4_61 ?_
      refine k_iret 162 C dX4_count_162 rfl ?_
      first
        | exact ⟨rfl, z0.symm⟩
        | exact ⟨rfl, (mCnt_in zj).symm⟩
    · obtain ⟨j, zj, rfl⟩ := ok_n h147
      refine k_aload_n 150 151 C dX4_count_150 rfl 0 rfl ?_
      refine k_iload_n 151 152 C dX4_count_151 rfl 1 rfl ?_
      refine k_iconst 152 153 C dX4_count_152 rfl (v := 1) rfl ?_
      refine k_isub 153 154 C dX4_count_153 rfl  ?_
      refine k_rwI (y := nI j) (pk_sub (a := j + 1) (b := 1) (by omega)) ?_
      refine k_callVI 154 157 C [_] [] dX4_count_154 rfl (ct_X4_of (k := j) (by first | omega | (simp only [hdC, ceC]; omega)) hM (hf)) mi_X4_of ml_X4_65 im_X4_of se_X4_of ci_X4 (IsMdl.o ‹_›) rfl rfl ⟨Nat.le_of_ble_eq_true rfl, Nat.le_of_ble_eq_true rfl⟩ (Nat.le_of_ble_eq_true rfl) (Nat.zero_le _) (Nat.zero_le _) (fun r154 V154 p154 => ?_)
      obtain ⟨rfl, rfl⟩ := And.intro p154.1.symm p154.2
      refine k_goto 157 162 C dX4_count_157 (by decide) ?_
      refine k_iret 162 C dX4_count_162 rfl ?_
      first
        | exact ⟨rfl, z0.symm⟩
        | exact ⟨rfl, (mCnt_in zj).symm⟩
  · refine k_tabAt 1 95 C dX4_count_1 (z := 11) h1 rfl rfl rfl (by decide) ?_
    refine k_aload_n 95 96 C dX4_count_95 rfl 0 rfl ?_
    refine k_callVI 96 99 C [] [] dX4_count_96 rfl (ct_X4_isBlunt hM (hf) hs) mi_X4_isBlunt ml_X4_75 im_X4_isBlunt se_X4_isBlunt ci_X4 (IsMdl.o ‹_›) rfl rfl ⟨Nat.le_of_ble_eq_true rfl, Nat.le_of_ble_eq_true rfl⟩ (Nat.le_of_ble_eq_true rfl) (Nat.zero_le _) (Nat.zero_le _) (fun r96 V96 p96 => ?_)
    obtain ⟨rfl, rfl⟩ := And.intro p96.1.symm p96.2
    refine k_ifb_eq 99 106 102 C dX4_count_99 (by decide) rfl (fun h99 => ?_) (fun h99 => ?_)
    · subst h1
      have z0 : mCnt f h zn 11 = 0 := bi_f h99
      refine k_iconst 106 107 C dX4_count_106 rfl (v := 0) rfl ?_
      refine k_iret 107 C dX4_count_107 rfl ?_
      first
        | exact ⟨rfl, z0.symm⟩
        | exact ⟨rfl, z1.symm⟩
    · subst h1
      have z1 : mCnt f h zn 11 = 1 := bi_t h99
      refine k_iconst 102 103 C dX4_count_102 rfl (v := 1) rfl ?_
      refine k_goto 103 107 C dX4_count_103 (by decide) ?_
      refine k_iret 107 C dX4_count_107 rfl ?_
      first
        | exact ⟨rfl, z0.symm⟩
        | exact ⟨rfl, z1.symm⟩
  · refine k_tabAt 1 108 C dX4_count_1 (z := 12) h1 rfl rfl rfl (by decide) ?_
    refine k_bipush 108 110 C dX4_count_108 rfl (v := 10) rfl ?_
    refine k_aload_n 110 111 C dX4_count_110 rfl 0 rfl ?_
    refine k_bipush 111 113 C dX4_count_111 rfl (v := 10) rfl ?_
    refine k_callVI 113 116 C [_] [_] dX4_count_113 rfl (ct_X4_of (k := 10) (by first | omega | (simp only [hdC, ceC]; omega)) hM (hf)) mi_X4_of ml_X4_65 im_X4_of se_X4_of ci_X4 (IsMdl.o ‹_›) rfl rfl ⟨Nat.le_of_ble_eq_true rfl, Nat.le_of_ble_eq_true rfl⟩ (Nat.le_of_ble_eq_true rfl) (Nat.zero_le _) (Nat.zero_le _) (fun r113 V113 p113 => ?_)
    obtain ⟨rfl, rfl⟩ := And.intro p113.1.symm p113.2
    refine k_isub 116 117 C dX4_count_116 rfl  ?_
    refine k_iret 117 C dX4_count_117 rfl ?_
    subst h1
    exact ⟨rfl, rfl⟩
  · refine k_tabAt 1 118 C dX4_count_1 (z := 13) h1 rfl rfl rfl (by decide) ?_
    refine k_aload_n 118 119 C dX4_count_118 rfl 0 rfl ?_
    refine k_bipush 119 121 C dX4_count_119 rfl (v := 11) rfl ?_
    refine k_iload_n 121 122 C dX4_count_121 rfl 1 rfl ?_
    refine k_iadd 122 123 C dX4_count_122 rfl  ?_
    refine k_bipush 123 125 C dX4_count_123 rfl (v := 13) rfl ?_
    refine k_isub 125 126 C dX4_count_125 rfl  ?_
    rw [h1]
    first
      | refine k_rwI (y := nI 11) rfl ?_
      | refine k_rwI (y := nI 12) rfl ?_
      | refine k_rwI (y := nI 13) rfl ?_
    refine k_callVI 126 129 C [_] [] dX4_count_126 rfl (ct_X4_of (by decide) hM hf) mi_X4_of ml_X4_65 im_X4_of se_X4_of ci_X4 (IsMdl.o ‹_›) rfl rfl ⟨Nat.le_of_ble_eq_true rfl, Nat.le_of_ble_eq_true rfl⟩ (Nat.le_of_ble_eq_true rfl) (Nat.zero_le _) (Nat.zero_le _) (fun r126 V126 p126 => ?_)
    obtain ⟨rfl, rfl⟩ := And.intro p126.1.symm p126.2
    refine k_iret 129 C dX4_count_129 rfl ?_
    subst h1
    exact ⟨rfl, rfl⟩
  · refine k_tabAt 1 118 C dX4_count_1 (z := 14) h1 rfl rfl rfl (by decide) ?_
    refine k_aload_n 118 119 C dX4_count_118 rfl 0 rfl ?_
    refine k_bipush 119 121 C dX4_count_119 rfl (v := 11) rfl ?_
    refine k_iload_n 121 122 C dX4_count_121 rfl 1 rfl ?_
    refine k_iadd 122 123 C dX4_count_122 rfl  ?_
    refine k_bipush 123 125 C dX4_count_123 rfl (v := 13) rfl ?_
    refine k_isub 125 126 C dX4_count_125 rfl  ?_
    rw [h1]
    first
      | refine k_rwI (y := nI 11) rfl ?_
      | refine k_rwI (y := nI 12) rfl ?_
      | refine k_rwI (y := nI 13) rfl ?_
    refine k_callVI 126 129 C [_] [] dX4_count_126 rfl (ct_X4_of (by decide) hM hf) mi_X4_of ml_X4_65 im_X4_of se_X4_of ci_X4 (IsMdl.o ‹_›) rfl rfl ⟨Nat.le_of_ble_eq_true rfl, Nat.le_of_ble_eq_true rfl⟩ (Nat.le_of_ble_eq_true rfl) (Nat.zero_le _) (Nat.zero_le _) (fun r126 V126 p126 => ?_)
    obtain ⟨rfl, rfl⟩ := And.intro p126.1.symm p126.2
    refine k_iret 129 C dX4_count_129 rfl ?_
    subst h1
    exact ⟨rfl, rfl⟩
  · refine k_tabAt 1 118 C dX4_count_1 (z := 15) h1 rfl rfl rfl (by decide) ?_
    refine k_aload_n 118 119 C dX4_count_118 rfl 0 rfl ?_
    refine k_bipush 119 121 C dX4_count_119 rfl (v := 11) rfl ?_
    refine k_iload_n 121 122 C dX4_count_121 rfl 1 rfl ?_
    refine k_iadd 122 123 C dX4_count_122 rfl  ?_
    refine k_bipush 123 125 C dX4_count_123 rfl (v := 13) rfl ?_
    refine k_isub 125 126 C dX4_count_125 rfl  ?_
    rw [h1]
    first
      | refine k_rwI (y := nI 11) rfl ?_
      | refine k_rwI (y := nI 12) rfl ?_
      | refine k_rwI (y := nI 13) rfl ?_
    refine k_callVI 126 129 C [_] [] dX4_count_126 rfl (ct_X4_of (by decide) hM hf) mi_X4_of ml_X4_65 im_X4_of se_X4_of ci_X4 (IsMdl.o ‹_›) rfl rfl ⟨Nat.le_of_ble_eq_true rfl, Nat.le_of_ble_eq_true rfl⟩ (Nat.le_of_ble_eq_true rfl) (Nat.zero_le _) (Nat.zero_le _) (fun r126 V126 p126 => ?_)
    obtain ⟨rfl, rfl⟩ := And.intro p126.1.symm p126.2
    refine k_iret 129 C dX4_count_129 rfl ?_
    subst h1
    exact ⟨rfl, rfl⟩
  · refine k_tabAt 1 130 C dX4_count_1 (z := 16) h1 rfl rfl rfl (by decide) ?_
    refine k_aload_n 130 131 C dX4_count_130 rfl 0 rfl ?_
    refine k_get 131 134 C dX4_count_131 rfl ci_X4 3 fl_X4_34 (IsMdl.o ‹_›) (by decide) rfl ?_
    refine k_rwI (hh.1) ?_
    refine k_iret 134 C dX4_count_134 rfl ?_
    subst h1
    exact ⟨rfl, rfl⟩
  · refine k_tabAt 1 135 C dX4_count_1 (z := 17) h1 rfl rfl rfl (by decide) ?_
    refine k_aload_n 135 136 C dX4_count_135 rfl 0 rfl ?_
    refine k_get 136 139 C dX4_count_136 rfl ci_X4 5 fl_X4_79 (IsMdl.o ‹_›) (by decide) rfl ?_
    refine k_rwI (hz) ?_
    refine k_iret 139 C dX4_count_139 rfl ?_
    subst h1
    exact ⟨rfl, rfl⟩
set_option maxHeartbeats 4000000 in
set_option maxRecDepth 100000 in
theorem ct_X4_begins {E : gE} {T : gT} {l : Launch} {V : gV} {M n : Nat} {f : Nat → Int64} (hM : IsMdl T M) (hf : PQ V M f) (h14 : f 14 = lN n) (hn : n ≤ 5) : CtI E T l yX4_begins (gw yX4_begins cX4_begins 3 (some .int)) { frames := 1, cells := 0, slots := 0, locals := 21 } [.ref M] V (fun (r : Int32) (V' : gV) => Pg V V' M (bgF f n) ∧ r = nI n) := by
  refine ctI_of (L := [(0, .ref M)]) (by decide) rfl (Nat.le_of_ble_eq_true rfl) rfl (fun p e s m args below meth c C => ?_)
  have loop20 : ∀ (zf : Nat) (V1 : gV) (w : Nat), 150 - w = zf → (w ≤ 150) → (Pg V V1 M (bgL (va_up f 14 (f 14 + 1)) n w)) → KW E T V1 p l e { frames := 1, cells := 0, slots := 0, locals := 21 } s m args below meth c 3 0 0 (MQ below (va_Qi (fun (r : Int32) (V' : gV) => Pg V V' M (bgF f n) ∧ r = nI n) (RepS E T) (gA E)) args s 0 0 (gA E)) 20 [(2, .int (nI w)), (0, .ref M), (1, .int (nI n))] [] := by
    intro zf
    induction zf using Nat.strongRecOn with
    | _ zf ih =>
    intro V1 w zhf hw g1
    refine k_iload_n 20 21 C dX4_begins_20 rfl 0 rfl ?_
    refine k_sipush 21 24 C dX4_begins_21 rfl (v := 150) rfl ?_
    refine k_icmp_ge 24 44 27 C dX4_begins_24 (by decide) rfl (fun h24 => ?_) (fun h24 => ?_)
    · have z24 : nI 150 ≤ nI w := h24
      rw [n1k (by omega) (by omega)] at z24
      obtain rfl : w = 150 := by omega
      refine k_aload_n 44 45 C dX4_begins_44 rfl 1 rfl ?_
      refine k_getF 45 48 C dX4_begins_45 rfl ci_X4 0 fl_X4_7 (IsMdl.o ‹_›) (by decide) (IsMdl.f0 ‹_›) rfl ?_
      refine k_iload_n 48 49 C dX4_begins_48 rfl 2 rfl ?_
      refine k_iconst 49 50 C dX4_begins_49 rfl (v := 1) rfl ?_
      refine k_callSI 50 53 C [_, _] [_] dX4_begins_50 rfl (ct_X4_head (d := n) (k := 1)) mi_X4_head ml_X4_85 st_X4_head rfl rfl ⟨Nat.le_of_ble_eq_true rfl, Nat.le_of_ble_eq_true rfl⟩ (Nat.le_of_ble_eq_true rfl) (Nat.zero_le _) (Nat.zero_le _) (fun r50 V50 p50 => ?_)
      obtain ⟨rfl, rfl⟩ := And.intro p50.1.symm p50.2
      refine k_ldc2 53 56 C dX4_begins_53 rfl kl_X4_96 ?_
      refine k_lastP 56 57 C dX4_begins_56 rfl ‹_› (f := _) (g1.2.2.2) (c0 := hdC (n) (1)) (by first | omega | (simp only [hdC, ceC]; omega)) (fun V56 p56 => ?_)
      refine k_aload_n 57 58 C dX4_begins_57 rfl 1 rfl ?_
      refine k_getF 58 61 C dX4_begins_58 rfl ci_X4 0 fl_X4_7 (IsMdl.o ‹_›) (by decide) (IsMdl.f0 ‹_›) rfl ?_
      refine k_iload_n 61 62 C dX4_begins_61 rfl 2 rfl ?_
      refine k_iconst 62 63 C dX4_begins_62 rfl (v := 2) rfl ?_
      refine k_callSI 63 66 C [_, _] [_] dX4_begins_63 rfl (ct_X4_head (d := n) (k := 2)) mi_X4_head ml_X4_85 st_X4_head rfl rfl ⟨Nat.le_of_ble_eq_true rfl, Nat.le_of_ble_eq_true rfl⟩ (Nat.le_of_ble_eq_true rfl) (Nat.zero_le _) (Nat.zero_le _) (fun r63 V63 p63 => ?_)
      obtain ⟨rfl, rfl⟩ := And.intro p63.1.symm p63.2
      refine k_lconst 66 67 C dX4_begins_66 rfl (v := 1) rfl ?_
      refine k_lastP 67 68 C dX4_begins_67 rfl ‹_› (f := va_up (_) (hdC (n) (1)) (_)) (p56.2.2.2) (c0 := hdC (n) (2)) (by first | omega | (simp only [hdC, ceC]; omega)) (fun V67 p67 => ?_)
      refine k_aload_n 68 69 C dX4_begins_68 rfl 1 rfl ?_
      refine k_getF 69 72 C dX4_begins_69 rfl ci_X4 0 fl_X4_7 (IsMdl.o ‹_›) (by decide) (IsMdl.f0 ‹_›) rfl ?_
      refine k_iload_n 72 73 C dX4_begins_72 rfl 2 rfl ?_
      refine k_iconst 73 74 C dX4_begins_73 rfl (v := 3) rfl ?_
      refine k_callSI 74 77 C [_, _] [_] dX4_begins_74 rfl (ct_X4_head (d := n) (k := 3)) mi_X4_head ml_X4_85 st_X4_head rfl rfl ⟨Nat.le_of_ble_eq_true rfl, Nat.le_of_ble_eq_true rfl⟩ (Nat.le_of_ble_eq_true rfl) (Nat.zero_le _) (Nat.zero_le _) (fun r74 V74 p74 => ?_)
      obtain ⟨rfl, rfl⟩ := And.intro p74.1.symm p74.2
      refine k_lconst 77 78 C dX4_begins_77 rfl (v := 1) rfl ?_
      refine k_lastP 78 79 C dX4_begins_78 rfl ‹_› (f := va_up (va_up (_) (hdC (n) (1)) (_)) (hdC (n) (2)) (_)) (p67.2.2.2) (c0 := hdC (n) (3)) (by first | omega | (simp only [hdC, ceC]; omega)) (fun V78 p78 => ?_)
      refine k_aload_n 79 80 C dX4_begins_79 rfl 1 rfl ?_
      refine k_getF 80 83 C dX4_begins_80 rfl ci_X4 0 fl_X4_7 (IsMdl.o ‹_›) (by decide) (IsMdl.f0 ‹_›) rfl ?_
      refine k_iload_n 83 84 C dX4_begins_83 rfl 2 rfl ?_
      refine k_iconst 84 85 C dX4_begins_84 rfl (v := 4) rfl ?_
      refine k_callSI 85 88 C [_, _] [_] dX4_begins_85 rfl (ct_X4_head (d := n) (k := 4)) mi_X4_head ml_X4_85 st_X4_head rfl rfl ⟨Nat.le_of_ble_eq_true rfl, Nat.le_of_ble_eq_true rfl⟩ (Nat.le_of_ble_eq_true rfl) (Nat.zero_le _) (Nat.zero_le _) (fun r85 V85 p85 => ?_)
      obtain ⟨rfl, rfl⟩ := And.intro p85.1.symm p85.2
      refine k_lconst 88 89 C dX4_begins_88 rfl (v := 1) rfl ?_
      refine k_lastP 89 90 C dX4_begins_89 rfl ‹_› (f := va_up (va_up (va_up (_) (hdC (n) (1)) (_)) (hdC (n) (2)) (_)) (hdC (n) (3)) (_)) (p78.2.2.2) (c0 := hdC (n) (4)) (by first | omega | (simp only [hdC, ceC]; omega)) (fun V89 p89 => ?_)
      refine k_aload_n 90 91 C dX4_begins_90 rfl 1 rfl ?_
      refine k_getF 91 94 C dX4_begins_91 rfl ci_X4 0 fl_X4_7 (IsMdl.o ‹_›) (by decide) (IsMdl.f0 ‹_›) rfl ?_
      refine k_iload_n 94 95 C dX4_begins_94 rfl 2 rfl ?_
      refine k_iconst 95 96 C dX4_begins_95 rfl (v := 5) rfl ?_
      refine k_callSI 96 99 C [_, _] [_] dX4_begins_96 rfl (ct_X4_head (d := n) (k := 5)) mi_X4_head ml_X4_85 st_X4_head rfl rfl ⟨Nat.le_of_ble_eq_true rfl, Nat.le_of_ble_eq_true rfl⟩ (Nat.le_of_ble_eq_true rfl) (Nat.zero_le _) (Nat.zero_le _) (fun r96 V96 p96 => ?_)
      obtain ⟨rfl, rfl⟩ := And.intro p96.1.symm p96.2
      refine k_lconst 99 100 C dX4_begins_99 rfl (v := 1) rfl ?_
      refine k_lastP 100 101 C dX4_begins_100 rfl ‹_› (f := va_up (va_up (va_up (va_up (_) (hdC (n) (1)) (_)) (hdC (n) (2)) (_)) (hdC (n) (3)) (_)) (hdC (n) (4)) (_)) (p89.2.2.2) (c0 := hdC (n) (5)) (by first | omega | (simp only [hdC, ceC]; omega)) (fun V100 p100 => ?_)
      refine k_aload_n 101 102 C dX4_begins_101 rfl 1 rfl ?_
      refine k_getF 102 105 C dX4_begins_102 rfl ci_X4 0 fl_X4_7 (IsMdl.o ‹_›) (by decide) (IsMdl.f0 ‹_›) rfl ?_
      refine k_iload_n 105 106 C dX4_begins_105 rfl 2 rfl ?_
      refine k_bipush 106 108 C dX4_begins_106 rfl (v := 7) rfl ?_
      refine k_callSI 108 111 C [_, _] [_] dX4_begins_108 rfl (ct_X4_head (d := n) (k := 7)) mi_X4_head ml_X4_85 st_X4_head rfl rfl ⟨Nat.le_of_ble_eq_true rfl, Nat.le_of_ble_eq_true rfl⟩ (Nat.le_of_ble_eq_true rfl) (Nat.zero_le _) (Nat.zero_le _) (fun r108 V108 p108 => ?_)
      obtain ⟨rfl, rfl⟩ := And.intro p108.1.symm p108.2
      refine k_lconst 111 112 C dX4_begins_111 rfl (v := 1) rfl ?_
      refine k_lastP 112 113 C dX4_begins_112 rfl ‹_› (f := va_up (va_up (va_up (va_up (va_up (_) (hdC (n) (1)) (_)) (hdC (n) (2)) (_)) (hdC (n) (3)) (_)) (hdC (n) (4)) (_)) (hdC (n) (5)) (_)) (p100.2.2.2) (c0 := hdC (n) (7)) (by first | omega | (simp only [hdC, ceC]; omega)) (fun V112 p112 => ?_)
      refine k_aload_n 113 114 C dX4_begins_113 rfl 1 rfl ?_
      refine k_getF 114 117 C dX4_begins_114 rfl ci_X4 0 fl_X4_7 (IsMdl.o ‹_›) (by decide) (IsMdl.f0 ‹_›) rfl ?_
      refine k_iload_n 117 118 C dX4_begins_117 rfl 2 rfl ?_
      refine k_bipush 118 120 C dX4_begins_118 rfl (v := 9) rfl ?_
      refine k_callSI 120 123 C [_, _] [_] dX4_begins_120 rfl (ct_X4_head (d := n) (k := 9)) mi_X4_head ml_X4_85 st_X4_head rfl rfl ⟨Nat.le_of_ble_eq_true rfl, Nat.le_of_ble_eq_true rfl⟩ (Nat.le_of_ble_eq_true rfl) (Nat.zero_le _) (Nat.zero_le _) (fun r120 V120 p120 => ?_)
      obtain ⟨rfl, rfl⟩ := And.intro p120.1.symm p120.2
      refine k_lconst 123 124 C dX4_begins_123 rfl (v := 1) rfl ?_
      refine k_lastP 124 125 C dX4_begins_124 rfl ‹_› (f := va_up (va_up (va_up (va_up (va_up (va_up (_) (hdC (n) (1)) (_)) (hdC (n) (2)) (_)) (hdC (n) (3)) (_)) (hdC (n) (4)) (_)) (hdC (n) (5)) (_)) (hdC (n) (7)) (_)) (p112.2.2.2) (c0 := hdC (n) (9)) (by first | omega | (simp only [hdC, ceC]; omega)) (fun V124 p124 => ?_)
      refine k_iload_n 125 126 C dX4_begins_125 rfl 2 rfl ?_
      refine k_iret 126 C dX4_begins_126 rfl ?_
      exact ⟨(((((((g1).trans p56).trans p67).trans p78).trans p89).trans p100).trans p112).trans p124, rfl⟩
    · have z24 : ¬ nI 150 ≤ nI w := h24
      rw [n1k (by omega) (by omega)] at z24
      refine k_aload_n 27 28 C dX4_begins_27 rfl 1 rfl ?_
      refine k_getF 28 31 C dX4_begins_28 rfl ci_X4 0 fl_X4_7 (IsMdl.o ‹_›) (by decide) (IsMdl.f0 ‹_›) rfl ?_
      refine k_iload_n 31 32 C dX4_begins_31 rfl 2 rfl ?_
      refine k_iload_n 32 33 C dX4_begins_32 rfl 0 rfl ?_
      refine k_callSI 33 36 C [_, _] [_] dX4_begins_33 rfl (ct_X4_head (d := n) (k := w)) mi_X4_head ml_X4_85 st_X4_head rfl rfl ⟨Nat.le_of_ble_eq_true rfl, Nat.le_of_ble_eq_true rfl⟩ (Nat.le_of_ble_eq_true rfl) (Nat.zero_le _) (Nat.zero_le _) (fun r33 V33 p33 => ?_)
      obtain ⟨rfl, rfl⟩ := And.intro p33.1.symm p33.2
      refine k_lconst 36 37 C dX4_begins_36 rfl (v := 0) rfl ?_
      refine k_lastP 37 38 C dX4_begins_37 rfl ‹_› (f := _) (g1.2.2.2) (c0 := hdC (n) (w)) (by first | omega | (simp only [hdC, ceC]; omega)) (fun V37 p37 => ?_)
      refine k_iinc 38 41 C [(2, _), (0, _), (1, _)] (nI (w + 1)) dX4_begins_38 rfl 0 rfl (nI_1 (w)) (by decide) rfl ?_
      refine k_goto 41 20 C dX4_begins_41 (by decide) ?_
      exact ih (150 - (w + 1)) (by omega) _ (w + 1) rfl (by omega) (by rw [← bgL_s]; exact g1.trans p37)
  refine k_aload_n 0 1 C dX4_begins_0 rfl 0 rfl ?_
  refine k_bipush 1 3 C dX4_begins_1 rfl (v := 14) rfl ?_
  refine k_callVI 3 6 C [_] [] dX4_begins_3 rfl (ct_X4_of (k := 14) (by first | omega | (simp only [hdC, ceC]; omega)) hM (hf)) mi_X4_of ml_X4_65 im_X4_of se_X4_of ci_X4 (IsMdl.o ‹_›) rfl rfl ⟨Nat.le_of_ble_eq_true rfl, Nat.le_of_ble_eq_true rfl⟩ (Nat.le_of_ble_eq_true rfl) (Nat.zero_le _) (Nat.zero_le _) (fun r3 V3 p3 => ?_)
  obtain ⟨rfl, rfl⟩ := And.intro p3.1.symm p3.2
  refine k_rwI (y := nI n) (by rw [h14]; exact lN_i n) ?_
  refine k_istore_n 6 7 C [(1, _), (0, _)] dX4_begins_6 rfl (by decide) rfl ?_
  refine k_aload_n 7 8 C dX4_begins_7 rfl 1 rfl ?_
  refine k_getF 8 11 C dX4_begins_8 rfl ci_X4 0 fl_X4_7 (IsMdl.o ‹_›) (by decide) (IsMdl.f0 ‹_›) rfl ?_
  refine k_bipush 11 13 C dX4_begins_11 rfl (v := 14) rfl ?_
  refine k_dup2 13 14 C dX4_begins_13 rfl rfl rfl ?_
  refine k_laldP 14 15 C dX4_begins_14 rfl ‹_› (f := f) (hf) (c0 := 14) (by first | omega | (simp only [hdC, ceC]; omega)) ?_
  refine k_lconst 15 16 C dX4_begins_15 rfl (v := 1) rfl ?_
  refine k_ladd 16 17 C dX4_begins_16 rfl  ?_
  refine k_lastP 17 18 C dX4_begins_17 rfl ‹_› (f := f) (hf) (c0 := 14) (by first | omega | (simp only [hdC, ceC]; omega)) (fun V17 p17 => ?_)
  refine k_iconst 18 19 C dX4_begins_18 rfl (v := 0) rfl ?_
  refine k_istore_n 19 20 C [(2, _), (1, _), (0, _)] dX4_begins_19 rfl (by decide) rfl ?_
  refine k_perm [0, 2, 1] (L' := [(2, _), (0, _), (1, _)]) rfl ?_
  exact loop20 _ _ 0 rfl (Nat.zero_le _) (by rw [bgL_0]; exact p17)
set_option maxHeartbeats 4000000 in
set_option maxRecDepth 100000 in
theorem ct_X4_draw {E : gE} {T : gT} {l : Launch} {V : gV} {n : Nat} {M h : Nat} {f : Nat → Int64} {H : Nat → Nat → Int64} (hM : IsMdl T M) (hf : PQ V M f) (hh : HQ V M h H) (h14 : f 14 = lN n) (hn : n ≤ 6) : CtI E T l yX4_draw (gw yX4_draw cX4_draw 1 (some .int)) { frames := 2, cells := 0, slots := 0, locals := 45 } [.ref M] V (fun (r : Int32) (V' : gV) => r = (mDrw f n).1 ∧ AfM V V' M f h H (mDrw f n).2) := by
  refine ctI_of (L := [(0, .ref M)]) (by decide) rfl (Nat.le_of_ble_eq_true rfl) rfl (fun p e s m args below meth c C => ?_)
  refine k_aload_n 0 1 C dX4_draw_0 rfl 0 rfl ?_
  refine k_getF 1 4 C dX4_draw_1 rfl ci_X4 0 fl_X4_7 (IsMdl.o ‹_›) (by decide) (IsMdl.f0 ‹_›) rfl ?_
  refine k_bipush 4 6 C dX4_draw_4 rfl (v := 14) rfl ?_
  refine k_laldP 6 7 C dX4_draw_6 rfl ‹_› (f := f) (hf) (c0 := 14) (by first | omega | (simp only [hdC, ceC]; omega)) ?_
  refine k_ldc2 7 10 C dX4_draw_7 rfl kl_X4_98 ?_
  refine k_lcmp_ne 10 11 17 14 C dX4_draw_10 rfl dX4_draw_11 (by decide) rfl (fun h11 => ?_) (fun h11 => ?_)
  · have z5 : n ≤ 5 := by
      have z6 : ¬ n = 6 := fun zz => h11 (by rw [h14, zz]; rfl)
      omega
    refine k_aload_n 17 18 C dX4_draw_17 rfl 0 rfl ?_
    refine k_callVV 18 21 C [] [] dX4_draw_18 rfl (ct_X4_keep hM hf hh) mi_X4_keep ml_X4_62 im_X4_keep se_X4_keep ci_X4 (IsMdl.o ‹_›) rfl rfl ⟨Nat.le_of_ble_eq_true rfl, Nat.le_of_ble_eq_true rfl⟩ (Nat.le_of_ble_eq_true rfl) (Nat.zero_le _) (Nat.zero_le _) (fun V18 p18 => ?_)
    obtain ⟨q18, y18, k18⟩ := p18
    refine k_aload_n 21 22 C dX4_draw_21 rfl 0 rfl ?_
    refine k_callVI 22 25 C [] [] dX4_draw_22 rfl (ct_X4_begins hM (q18) h14 z5) mi_X4_begins ml_X4_100 im_X4_begins se_X4_begins ci_X4 (IsMdl.o ‹_›) rfl rfl ⟨Nat.le_of_ble_eq_true rfl, Nat.le_of_ble_eq_true rfl⟩ (Nat.le_of_ble_eq_true rfl) (Nat.zero_le _) (Nat.zero_le _) (fun r22 V22 p22 => ?_)
    refine k_iret 25 C dX4_draw_25 rfl ?_
    have ee : mDrw f n = (nI n, some (bgF f n)) := by
      unfold mDrw; rw [if_neg (by omega)]
    exact ⟨by rw [ee]; exact p22.2, by rw [ee]; exact AfM.of y18 k18 p22.1⟩
  · obtain rfl : n = 6 := by
      rw [h14] at h11
      exact (lN_eq (by omega) (by decide)).mp (h11 : lN n = lN 6)
    refine k_ldc 14 16 C dX4_draw_14 rfl kc_X4_84 ?_
    refine k_iret 16 C dX4_draw_16 rfl ?_
    have ee : mDrw f 6 = (-2000000003, none) := rfl
    exact ⟨by rw [ee], by rw [ee]; exact AfM.no hf hh⟩
