def AVe (V : gV) (a : Nat) (S : Dk) (h : Nat) (H : Nat → Dk) : Prop := ∃ r0 ρ, AVp V a S h H r0 ρ
/-- behind a call: nothing recorded, or a new state with the one before it recorded -/
def After (V V' : gV) (a : Nat) (S : Dk) (h : Nat) (H : Nat → Dk) (x : Option Dk) : Prop := (match x with
  | none => AVe V' a S h H
  | some S' => AVe V' a S' (remN h) (remH S h H)) ∧ Keep V V' (a + 29) (a + 34) ∧ Off V V' a (a + 142)
theorem After.no {V V' : gV} {a : Nat} {S : Dk} {h : Nat} {H : Nat → Dk} (g : AVe V' a S h H) (k : Keep V V' (a + 29) (a + 34)) (f : Off V V' a (a + 142)) : After V V' a S h H none := ⟨g, k, f⟩
theorem After.yes {V V' : gV} {a : Nat} {S S' : Dk} {h : Nat} {H : Nat → Dk} (g : AVe V' a S' (remN h) (remH S h H)) (k : Keep V V' (a + 29) (a + 34)) (f : Off V V' a (a + 142)) : After V V' a S h H (some S') := ⟨g, k, f⟩
theorem After.of {V V1 V' : gV} {a : Nat} {S S' : Dk} {h : Nat} {H : Nat → Dk} {r0 : Nat} {ρ π' : Nat → Nat} (g : AVp V1 a S (remN h) (remH S h H) r0 ρ) (k : Keep V V1 (a + 29) (a + 34)) (f : Off V V1 a (a + 142)) (ho : Off V1 V' (dAd a r0) (dAd a r0 + 27)) (hk : DK V' (dAd a r0) S' π') : After V V' a S h H (some S') := by
  have hin := dAd_in (a := a) g.r5
  exact ⟨⟨_, _, g.upd ho hk⟩, k.trans (ho.keep (by omega)), f.trans (ho.wide (by omega) (by omega))⟩
theorem After.of0 {V V' : gV} {a : Nat} {S : Dk} {h : Nat} {H : Nat → Dk} {r0 : Nat} {ρ π' : Nat → Nat} (g : AVp V a S h H r0 ρ) (ho : Off V V' (dAd a r0) (dAd a r0 + 27)) (hk : DK V' (dAd a r0) S π') : After V V' a S h H none := by
  have hin := dAd_in (a := a) g.r5
  exact ⟨⟨_, _, g.upd ho hk⟩, ho.keep (by omega), ho.wide (by omega) (by omega)⟩
abbrev okR (x lo hi : Int32) : Prop := ¬ x < lo ∧ ¬ hi < x
abbrev inD (S : Dk) (i : Int32) : Prop := ¬ i < 0 ∧ ¬ nI (kn S) ≤ i
def cArm (S : Dk) (x y : Int32) : Int32 × Option Dk := if okR x 1 20 ∧ okR y 1 20 then (100 * kf S 0 + kf S 1, some (va_up (va_up (kf S) 0 x) 1 y, ks S, kn S, kdr S)) else (-2000000001, none)
def cPiv (S : Dk) (x y : Int32) : Int32 × Option Dk := if okR x 0 1000 ∧ okR y 0 1000 then (10000 * kf S 2 + kf S 3, some (va_up (va_up (kf S) 2 x) 3 y, ks S, kn S, kdr S)) else (-2000000001, none)
def cSet (S : Dk) (w v : Int32) : Int32 × Option Dk := if (¬ w < 0 ∧ ¬ 5 ≤ w) ∧ okR v (leastv w.toNatClampNeg) (mostv w.toNatClampNeg) then (ks S w.toNatClampNeg, some (kf S, va_up (ks S) w.toNatClampNeg v, kn S, kdr S)) else (-2000000001, none)
def cShp (S : Dk) : Int32 × Option Dk := if 1 ≤ kf S 6 then (kf S 5, some (va_up (va_up (kf S) 6 (kf S 6 - 1)) 5 0, ks S, kn S, kdr S)) else (-2000000003, none)
def cDrw (S : Dk) : Int32 × Option Dk := if kn S < 6 then (nI (kn S), some (kf S, ks S, kn S + 1, va_up (kdr S) (kn S) (dBegin (-1) 1 1))) else (-2000000003, none)
def cPnt (S : Dk) (i x y q : Int32) : Int32 × Option Dk := if ¬ (inD S i ∧ okR x 0 1000 ∧ okR y 0 1000 ∧ okR q 0 1) then (-2000000001, none) else if ¬ rpa (kdr S i.toNatClampNeg) = -1 ∨ hcp S i (kn S) = true then (-2000000002, none) else if ¬ rn (kdr S i.toNatClampNeg) < 20 then (-2000000003, none) else (nI (rn (kdr S i.toNatClampNeg)), some (kf S, ks S, kn S, va_up (kdr S) i.toNatClampNeg (dAdd (kdr S i.toNatClampNeg) x.toInt64 y.toInt64 (if q = 1 then 1 else -1))))
def cRem (S : Dk) (i : Int32) : Int32 × Option Dk := if ¬ inD S i then (-2000000001, none) else if hcp S i (kn S) = true then (-2000000002, none) else (nI (kn S - 1), some (rmS S i.toNatClampNeg (kn S - 1)))
def cWhy (S : Dk) (i : Int32) : Int32 := if inD S i then rsn S i (kdr S i.toNatClampNeg) else -2000000001
def kepS (S : Dk) (t : Dr) : Dk := (kf (lnAll S t (rn t)).1, ks (lnAll S t (rn t)).1, kn (lnAll S t (rn t)).1 + 1, va_up (kdr (lnAll S t (rn t)).1) (kn (lnAll S t (rn t)).1) (lnAll S t (rn t)).2)
def cCpy (S : Dk) (i : Int32) : Int32 × Option Dk := if ¬ inD S i then (-2000000001, none) else if ¬ rsn S i (kdr S i.toNatClampNeg) = 0 then (-2000000002, none) else (nI (kn S), some (kepS S (trD S i (kdr S i.toNatClampNeg))))
set_option maxHeartbeats 4000000 in
set_option maxRecDepth 100000 in
theorem ct_X3_arm {E : gE} {T : gT} {l : Launch} {V : gV} {x y : Int32} {a : Nat} {S : Dk} {h : Nat} {H : Nat → Dk} {r0 : Nat} {ρ : Nat → Nat} (hA : IsAll T a) (g : AVp V a S h H r0 ρ) : CtI E T l yX3_arm (gw yX3_arm cX3_arm 4 (some .int)) { frames := 5, cells := 0, slots := 0, locals := 108 } [.ref a, .int x, .int y] V (fun (r : Int32) (V' : gV) => r = (cArm S x y).1 ∧ After V V' a S h H (cArm S x y).2) := by
  refine ctI_of (L := [(0, .ref a), (1, .int x), (2, .int y)]) (by decide) rfl (Nat.le_of_ble_eq_true rfl) rfl (fun p e s m args below meth c C => ?_)
  obtain ⟨π, hk⟩ := g.dk
  have hD := hA.2 _ g.r5
  have ha := hA.a
  have zn6 := hk.le
  refine k_iload_n 0 1 C dX3_arm_0 rfl 1 rfl ?_
  refine k_iconst 1 2 C dX3_arm_1 rfl (v := 1) rfl ?_
  refine k_bipush 2 4 C dX3_arm_2 rfl (v := 20) rfl ?_
  refine k_callSI 4 7 C [_, _, _] [] dX3_arm_4 rfl ct_X3_isWithin mi_X3_isWithin ml_X3_31 st_X3_isWithin rfl rfl ⟨Nat.le_of_ble_eq_true rfl, Nat.le_of_ble_eq_true rfl⟩ (Nat.le_of_ble_eq_true rfl) (Nat.zero_le _) (Nat.zero_le _) (fun r4 V4 p4 => ?_)
  obtain ⟨rfl, rfl⟩ := And.intro p4.1.symm p4.2
  refine k_ifb_eq 7 20 10 C dX3_arm_7 (by decide) rfl (fun h7 => ?_) (fun h7 => ?_)
  · refine k_ldc 20 22 C dX3_arm_20 rfl kc_X3_35 ?_
    refine k_iret 22 C dX3_arm_22 rfl ?_
    have ee : cArm S x y = (-2000000001, none) := by
      unfold cArm; rw [if_neg (fun zz => by first | exact h7 zz.1 | exact h17 zz.2)]
    exact ⟨by rw [ee], by rw [ee]; exact After.no ⟨_, _, g⟩ Keep.rf Off.rf⟩
  · refine k_iload_n 10 11 C dX3_arm_10 rfl 2 rfl ?_
    refine k_iconst 11 12 C dX3_arm_11 rfl (v := 1) rfl ?_
    refine k_bipush 12 14 C dX3_arm_12 rfl (v := 20) rfl ?_
    refine k_callSI 14 17 C [_, _, _] [] dX3_arm_14 rfl ct_X3_isWithin mi_X3_isWithin ml_X3_31 st_X3_isWithin rfl rfl ⟨Nat.le_of_ble_eq_true rfl, Nat.le_of_ble_eq_true rfl⟩ (Nat.le_of_ble_eq_true rfl) (Nat.zero_le _) (Nat.zero_le _) (fun r14 V14 p14 => ?_)
    obtain ⟨rfl, rfl⟩ := And.intro p14.1.symm p14.2
    refine k_ifb_ne 17 23 20 C dX3_arm_17 (by decide) rfl (fun h17 => ?_) (fun h17 => ?_)
    · refine k_bipush 23 25 C dX3_arm_23 rfl (v := 100) rfl ?_
      refine k_aload_n 25 26 C dX3_arm_25 rfl 0 rfl ?_
      refine k_get 26 29 C dX3_arm_26 rfl ci_X3 0 fl_X3_10 (IsArm.o ‹_›) (by decide) rfl ?_
      refine k_rwQ (g.now) ?_
      refine k_getN 29 32 C dX3_arm_29 rfl ci_X0 0 fn_X3_36 (IsDsk.o ‹_›) (by decide) rfl ?_
      refine k_rwI (hk.f 0 (by decide) (by decide)) ?_
      refine k_imul 32 33 C dX3_arm_32 rfl  ?_
      refine k_aload_n 33 34 C dX3_arm_33 rfl 0 rfl ?_
      refine k_get 34 37 C dX3_arm_34 rfl ci_X3 0 fl_X3_10 (IsArm.o ‹_›) (by decide) rfl ?_
      refine k_rwQ (g.now) ?_
      refine k_getN 37 40 C dX3_arm_37 rfl ci_X0 1 fn_X3_39 (IsDsk.o ‹_›) (by decide) rfl ?_
      refine k_rwI (hk.f 1 (by decide) (by decide)) ?_
      refine k_iadd 40 41 C dX3_arm_40 rfl  ?_
      refine k_istore_n 41 42 C [(3, _), (0, _), (1, _), (2, _)] dX3_arm_41 rfl (by decide) rfl ?_
      refine k_aload_n 42 43 C dX3_arm_42 rfl 1 rfl ?_
      refine k_callVV 43 46 C [] [] dX3_arm_43 rfl (ct_X3_remember hA g) mi_X3_remember ml_X3_42 im_X3_remember se_X3_remember ci_X3 (IsArm.o ‹_›) rfl rfl ⟨Nat.le_of_ble_eq_true rfl, Nat.le_of_ble_eq_true rfl⟩ (Nat.le_of_ble_eq_true rfl) (Nat.zero_le _) (Nat.zero_le _) (fun V43 p43 => ?_)
      obtain ⟨ρ', g', k0, k1, o1⟩ := p43
      have hk' := hk.same k0
      refine k_aload_n 46 47 C dX3_arm_46 rfl 1 rfl ?_
      refine k_get 47 50 C dX3_arm_47 rfl ci_X3 0 fl_X3_10 (IsArm.o ‹_›) (by decide) rfl ?_
      refine k_rwQ (g'.now) ?_
      refine k_iload_n 50 51 C dX3_arm_50 rfl 2 rfl ?_
      refine k_putN 51 54 C dX3_arm_51 rfl ci_X0 0 fn_X3_36 (IsDsk.o hD) (by decide) rfl rfl rfl wI_off (ps_0_0 _ _ _ _) ?_
      have zk1 := hk'.fld (j := 0) (x := x) (by decide)
      have za := (wI_off (V := V43) (a := dAd a r0) (k := 0) (x := x) a (by have := dAd_in (a := a) g.r5; omega)).2.2
      refine k_aload_n 54 55 C dX3_arm_54 rfl 1 rfl ?_
      refine k_get 55 58 C dX3_arm_55 rfl ci_X3 0 fl_X3_10 (IsArm.o ‹_›) (by decide) rfl ?_
      refine k_rwQ ((show V43.2.2 a 0 = _ from g'.now)) ?_
      refine k_iload_n 58 59 C dX3_arm_58 rfl 3 rfl ?_
      refine k_putN 59 62 C dX3_arm_59 rfl ci_X0 1 fn_X3_39 (IsDsk.o hD) (by decide) rfl rfl rfl wI_off (ps_0_1 _ _ _ _) ?_
      have zk2 := zk1.fld (j := 1) (x := y) (by decide)
      refine k_iload_n 62 63 C dX3_arm_62 rfl 0 rfl ?_
      refine k_iret 63 C dX3_arm_63 rfl ?_
      have ee : cArm S x y = (100 * kf S 0 + kf S 1, some (va_up (va_up (kf S) 0 x) 1 y, ks S, kn S, kdr S)) := by
        unfold cArm; rw [if_pos ⟨h7, h17⟩]
      exact ⟨by rw [ee], by rw [ee]; exact After.of g' k1 o1 ((Off.rf.wI (Nat.le_refl _) (by omega)).wI (Nat.le_refl _) (by omega)) zk2⟩
    · refine k_ldc 20 22 C dX3_arm_20 rfl kc_X3_35 ?_
      refine k_iret 22 C dX3_arm_22 rfl ?_
      have ee : cArm S x y = (-2000000001, none) := by
        unfold cArm; rw [if_neg (fun zz => by first | exact h7 zz.1 | exact h17 zz.2)]
      exact ⟨by rw [ee], by rw [ee]; exact After.no ⟨_, _, g⟩ Keep.rf Off.rf⟩
set_option maxHeartbeats 4000000 in
set_option maxRecDepth 100000 in
theorem ct_X3_pivot {E : gE} {T : gT} {l : Launch} {V : gV} {x y : Int32} {a : Nat} {S : Dk} {h : Nat} {H : Nat → Dk} {r0 : Nat} {ρ : Nat → Nat} (hA : IsAll T a) (g : AVp V a S h H r0 ρ) : CtI E T l yX3_pivot (gw yX3_pivot cX3_pivot 4 (some .int)) { frames := 5, cells := 0, slots := 0, locals := 108 } [.ref a, .int x, .int y] V (fun (r : Int32) (V' : gV) => r = (cPiv S x y).1 ∧ After V V' a S h H (cPiv S x y).2) := by
  refine ctI_of (L := [(0, .ref a), (1, .int x), (2, .int y)]) (by decide) rfl (Nat.le_of_ble_eq_true rfl) rfl (fun p e s m args below meth c C => ?_)
  obtain ⟨π, hk⟩ := g.dk
  have hD := hA.2 _ g.r5
  have ha := hA.a
  have zn6 := hk.le
  refine k_iload_n 0 1 C dX3_pivot_0 rfl 1 rfl ?_
  refine k_iconst 1 2 C dX3_pivot_1 rfl (v := 0) rfl ?_
  refine k_sipush 2 5 C dX3_pivot_2 rfl (v := 1000) rfl ?_
  refine k_callSI 5 8 C [_, _, _] [] dX3_pivot_5 rfl ct_X3_isWithin mi_X3_isWithin ml_X3_31 st_X3_isWithin rfl rfl ⟨Nat.le_of_ble_eq_true rfl, Nat.le_of_ble_eq_true rfl⟩ (Nat.le_of_ble_eq_true rfl) (Nat.zero_le _) (Nat.zero_le _) (fun r5 V5 p5 => ?_)
  obtain ⟨rfl, rfl⟩ := And.intro p5.1.symm p5.2
  refine k_ifb_eq 8 22 11 C dX3_pivot_8 (by decide) rfl (fun h8 => ?_) (fun h8 => ?_)
  · refine k_ldc 22 24 C dX3_pivot_22 rfl kc_X3_35 ?_
    refine k_iret 24 C dX3_pivot_24 rfl ?_
    have ee : cPiv S x y = (-2000000001, none) := by
      unfold cPiv; rw [if_neg (fun zz => by first | exact h8 zz.1 | exact h19 zz.2)]
    exact ⟨by rw [ee], by rw [ee]; exact After.no ⟨_, _, g⟩ Keep.rf Off.rf⟩
  · refine k_iload_n 11 12 C dX3_pivot_11 rfl 2 rfl ?_
    refine k_iconst 12 13 C dX3_pivot_12 rfl (v := 0) rfl ?_
    refine k_sipush 13 16 C dX3_pivot_13 rfl (v := 1000) rfl ?_
    refine k_callSI 16 19 C [_, _, _] [] dX3_pivot_16 rfl ct_X3_isWithin mi_X3_isWithin ml_X3_31 st_X3_isWithin rfl rfl ⟨Nat.le_of_ble_eq_true rfl, Nat.le_of_ble_eq_true rfl⟩ (Nat.le_of_ble_eq_true rfl) (Nat.zero_le _) (Nat.zero_le _) (fun r16 V16 p16 => ?_)
    obtain ⟨rfl, rfl⟩ := And.intro p16.1.symm p16.2
    refine k_ifb_ne 19 25 22 C dX3_pivot_19 (by decide) rfl (fun h19 => ?_) (fun h19 => ?_)
    · refine k_sipush 25 28 C dX3_pivot_25 rfl (v := 10000) rfl ?_
      refine k_aload_n 28 29 C dX3_pivot_28 rfl 0 rfl ?_
      refine k_get 29 32 C dX3_pivot_29 rfl ci_X3 0 fl_X3_10 (IsArm.o ‹_›) (by decide) rfl ?_
      refine k_rwQ (g.now) ?_
      refine k_getN 32 35 C dX3_pivot_32 rfl ci_X0 2 fn_X3_45 (IsDsk.o ‹_›) (by decide) rfl ?_
      refine k_rwI (hk.f 2 (by decide) (by decide)) ?_
      refine k_imul 35 36 C dX3_pivot_35 rfl  ?_
      refine k_aload_n 36 37 C dX3_pivot_36 rfl 0 rfl ?_
      refine k_get 37 40 C dX3_pivot_37 rfl ci_X3 0 fl_X3_10 (IsArm.o ‹_›) (by decide) rfl ?_
      refine k_rwQ (g.now) ?_
      refine k_getN 40 43 C dX3_pivot_40 rfl ci_X0 3 fn_X3_48 (IsDsk.o ‹_›) (by decide) rfl ?_
      refine k_rwI (hk.f 3 (by decide) (by decide)) ?_
      refine k_iadd 43 44 C dX3_pivot_43 rfl  ?_
      refine k_istore_n 44 45 C [(3, _), (0, _), (1, _), (2, _)] dX3_pivot_44 rfl (by decide) rfl ?_
      refine k_aload_n 45 46 C dX3_pivot_45 rfl 1 rfl ?_
      refine k_callVV 46 49 C [] [] dX3_pivot_46 rfl (ct_X3_remember hA g) mi_X3_remember ml_X3_42 im_X3_remember se_X3_remember ci_X3 (IsArm.o ‹_›) rfl rfl ⟨Nat.le_of_ble_eq_true rfl, Nat.le_of_ble_eq_true rfl⟩ (Nat.le_of_ble_eq_true rfl) (Nat.zero_le _) (Nat.zero_le _) (fun V46 p46 => ?_)
      obtain ⟨ρ', g', k0, k1, o1⟩ := p46
      have hk' := hk.same k0
      refine k_aload_n 49 50 C dX3_pivot_49 rfl 1 rfl ?_
      refine k_get 50 53 C dX3_pivot_50 rfl ci_X3 0 fl_X3_10 (IsArm.o ‹_›) (by decide) rfl ?_
      refine k_rwQ (g'.now) ?_
      refine k_iload_n 53 54 C dX3_pivot_53 rfl 2 rfl ?_
      refine k_putN 54 57 C dX3_pivot_54 rfl ci_X0 2 fn_X3_45 (IsDsk.o hD) (by decide) rfl rfl rfl wI_off (ps_0_2 _ _ _ _) ?_
      have zk1 := hk'.fld (j := 2) (x := x) (by decide)
      have za := (wI_off (V := V46) (a := dAd a r0) (k := 2) (x := x) a (by have := dAd_in (a := a) g.r5; omega)).2.2
      refine k_aload_n 57 58 C dX3_pivot_57 rfl 1 rfl ?_
      refine k_get 58 61 C dX3_pivot_58 rfl ci_X3 0 fl_X3_10 (IsArm.o ‹_›) (by decide) rfl ?_
      refine k_rwQ ((show V46.2.2 a 0 = _ from g'.now)) ?_
      refine k_iload_n 61 62 C dX3_pivot_61 rfl 3 rfl ?_
      refine k_putN 62 65 C dX3_pivot_62 rfl ci_X0 3 fn_X3_48 (IsDsk.o hD) (by decide) rfl rfl rfl wI_off (ps_0_3 _ _ _ _) ?_
      have zk2 := zk1.fld (j := 3) (x := y) (by decide)
      refine k_iload_n 65 66 C dX3_pivot_65 rfl 0 rfl ?_
      refine k_iret 66 C dX3_pivot_66 rfl ?_
      have ee : cPiv S x y = (10000 * kf S 2 + kf S 3, some (va_up (va_up (kf S) 2 x) 3 y, ks S, kn S, kdr S)) := by
        unfold cPiv; rw [if_pos ⟨h8, h19⟩]
      exact ⟨by rw [ee], by rw [ee]; exact After.of g' k1 o1 ((Off.rf.wI (Nat.le_refl _) (by omega)).wI (Nat.le_refl _) (by omega)) zk2⟩
    · refine k_ldc 22 24 C dX3_pivot_22 rfl kc_X3_35 ?_
      refine k_iret 24 C dX3_pivot_24 rfl ?_
      have ee : cPiv S x y = (-2000000001, none) := by
        unfold cPiv; rw [if_neg (fun zz => by first | exact h8 zz.1 | exact h19 zz.2)]
      exact ⟨by rw [ee], by rw [ee]; exact After.no ⟨_, _, g⟩ Keep.rf Off.rf⟩
set_option maxHeartbeats 4000000 in
set_option maxRecDepth 100000 in
theorem ct_X3_set {E : gE} {T : gT} {l : Launch} {V : gV} {x y : Int32} {a : Nat} {S : Dk} {h : Nat} {H : Nat → Dk} {r0 : Nat} {ρ : Nat → Nat} (hA : IsAll T a) (g : AVp V a S h H r0 ρ) : CtI E T l yX3_set (gw yX3_set cX3_set 4 (some .int)) { frames := 5, cells := 0, slots := 0, locals := 108 } [.ref a, .int x, .int y] V (fun (r : Int32) (V' : gV) => r = (cSet S x y).1 ∧ After V V' a S h H (cSet S x y).2) := by
  refine ctI_of (L := [(0, .ref a), (1, .int x), (2, .int y)]) (by decide) rfl (Nat.le_of_ble_eq_true rfl) rfl (fun p e s m args below meth c C => ?_)
  obtain ⟨π, hk⟩ := g.dk
  have hD := hA.2 _ g.r5
  have ha := hA.a
  have zn6 := hk.le
  refine k_iload_n 0 1 C dX3_set_0 rfl 1 rfl ?_
  refine k_if_lt 1 37 4 C dX3_set_1 (by decide) rfl (fun h1 => ?_) (fun h1 => ?_)
  · refine k_ldc 37 39 C dX3_set_37 rfl kc_X3_35 ?_
    refine k_iret 39 C dX3_set_39 rfl ?_
    have ee : cSet S x y = (-2000000001, none) := by
      unfold cSet; rw [if_neg (fun zz => by first | exact zz.1.1 h1 | exact zz.1.2 h9 | exact h34 zz.2)]
    exact ⟨by rw [ee], by rw [ee]; exact After.no ⟨_, _, g⟩ Keep.rf Off.rf⟩
  · refine k_iload_n 4 5 C dX3_set_4 rfl 1 rfl ?_
    refine k_gets0 5 8 C dX3_set_5 rfl fl_X3_51 ?_
    refine k_slen0 8 9 C dX3_set_8 rfl  ?_
    refine k_icmp_ge 9 37 12 C dX3_set_9 (by decide) rfl (fun h9 => ?_) (fun h9 => ?_)
    · refine k_ldc 37 39 C dX3_set_37 rfl kc_X3_35 ?_
      refine k_iret 39 C dX3_set_39 rfl ?_
      have ee : cSet S x y = (-2000000001, none) := by
        unfold cSet; rw [if_neg (fun zz => by first | exact zz.1.1 h1 | exact zz.1.2 h9 | exact h34 zz.2)]
      exact ⟨by rw [ee], by rw [ee]; exact After.no ⟨_, _, g⟩ Keep.rf Off.rf⟩
    · refine k_iload_n 12 13 C dX3_set_12 rfl 1 rfl ?_
      refine k_gets1 13 16 C dX3_set_13 rfl fl_X3_55 ?_
      refine k_slen1 16 17 C dX3_set_16 rfl  ?_
      refine k_icmp_ge 17 37 20 C dX3_set_17 (by decide) rfl (fun h17 => ?_) (fun h17 => ?_)
      · exact absurd h17 h9
      · refine k_iload_n 20 21 C dX3_set_20 rfl 2 rfl ?_
        refine k_gets0 21 24 C dX3_set_21 rfl fl_X3_51 ?_
        refine k_iload_n 24 25 C dX3_set_24 rfl 1 rfl ?_
        refine k_sald0 25 26 C dX3_set_25 rfl (vi_of (by decide) h1 h9) ?_
        refine k_gets1 26 29 C dX3_set_26 rfl fl_X3_55 ?_
        refine k_iload_n 29 30 C dX3_set_29 rfl 1 rfl ?_
        refine k_sald1 30 31 C dX3_set_30 rfl (vi_of (by decide) h1 h9) ?_
        refine k_callSI 31 34 C [_, _, _] [] dX3_set_31 rfl ct_X3_isWithin mi_X3_isWithin ml_X3_31 st_X3_isWithin rfl rfl ⟨Nat.le_of_ble_eq_true rfl, Nat.le_of_ble_eq_true rfl⟩ (Nat.le_of_ble_eq_true rfl) (Nat.zero_le _) (Nat.zero_le _) (fun r31 V31 p31 => ?_)
        obtain ⟨rfl, rfl⟩ := And.intro p31.1.symm p31.2
        refine k_ifb_ne 34 40 37 C dX3_set_34 (by decide) rfl (fun h34 => ?_) (fun h34 => ?_)
        · refine k_aload_n 40 41 C dX3_set_40 rfl 0 rfl ?_
          refine k_get 41 44 C dX3_set_41 rfl ci_X3 0 fl_X3_10 (IsArm.o ‹_›) (by decide) rfl ?_
          refine k_rwQ (g.now) ?_
          refine k_iload_n 44 45 C dX3_set_44 rfl 1 rfl ?_
          refine k_callVI 45 48 C [_] [] dX3_set_45 rfl (ct_X0_setting hD hk) mi_X0_setting ml_X3_58 im_X0_setting se_X0_setting ci_X0 (IsDsk.o ‹_›) rfl rfl ⟨Nat.le_of_ble_eq_true rfl, Nat.le_of_ble_eq_true rfl⟩ (Nat.le_of_ble_eq_true rfl) (Nat.zero_le _) (Nat.zero_le _) (fun r45 V45 p45 => ?_)
          obtain ⟨rfl, rfl⟩ := And.intro p45.1.symm p45.2
          obtain ⟨j, zj, rfl⟩ := nI_of h1
          have z5 : j < 5 := by
            have z9 : ¬ nI 5 ≤ nI j := h9
            rw [nI_leI (by omega) zj] at z9; omega
          have zc : (nI j).toNatClampNeg = j := nI_clamp zj
          refine k_rwI (y := ks S j) (by unfold sSet; rw [if_pos ⟨h1, h9⟩, zc]) ?_
          refine k_istore_n 48 49 C [(3, _), (0, _), (1, _), (2, _)] dX3_set_48 rfl (by decide) rfl ?_
          refine k_aload_n 49 50 C dX3_set_49 rfl 1 rfl ?_
          refine k_callVV 50 53 C [] [] dX3_set_50 rfl (ct_X3_remember hA g) mi_X3_remember ml_X3_42 im_X3_remember se_X3_remember ci_X3 (IsArm.o ‹_›) rfl rfl ⟨Nat.le_of_ble_eq_true rfl, Nat.le_of_ble_eq_true rfl⟩ (Nat.le_of_ble_eq_true rfl) (Nat.zero_le _) (Nat.zero_le _) (fun V50 p50 => ?_)
          obtain ⟨ρ', g', k0, k1, o1⟩ := p50
          have hk' := hk.same k0
          refine k_aload_n 53 54 C dX3_set_53 rfl 1 rfl ?_
          refine k_get 54 57 C dX3_set_54 rfl ci_X3 0 fl_X3_10 (IsArm.o ‹_›) (by decide) rfl ?_
          refine k_rwQ (g'.now) ?_
          refine k_iload_n 57 58 C dX3_set_57 rfl 2 rfl ?_
          refine k_iload_n 58 59 C dX3_set_58 rfl 3 rfl ?_
          refine k_callVV 59 62 C [_, _] [] dX3_set_59 rfl (ct_X0_changeSetting z5 hD hk') mi_X0_changeSetting ml_X3_62 im_X0_changeSetting se_X0_changeSetting ci_X0 (IsDsk.o hD) rfl rfl ⟨Nat.le_of_ble_eq_true rfl, Nat.le_of_ble_eq_true rfl⟩ (Nat.le_of_ble_eq_true rfl) (Nat.zero_le _) (Nat.zero_le _) (fun V59 p59 => ?_)
          refine k_iload_n 62 63 C dX3_set_62 rfl 0 rfl ?_
          refine k_iret 63 C dX3_set_63 rfl ?_
          have ee : cSet S (nI j) y = (ks S j, some (kf S, va_up (ks S) j y, kn S, kdr S)) := by
            unfold cSet; rw [if_pos ⟨⟨h1, h9⟩, h34⟩, zc]
          exact ⟨by rw [ee], by rw [ee]; exact After.of g' k1 o1 p59.2 p59.1⟩
        · refine k_ldc 37 39 C dX3_set_37 rfl kc_X3_35 ?_
          refine k_iret 39 C dX3_set_39 rfl ?_
          have ee : cSet S x y = (-2000000001, none) := by
            unfold cSet; rw [if_neg (fun zz => by first | exact zz.1.1 h1 | exact zz.1.2 h9 | exact h34 zz.2)]
          exact ⟨by rw [ee], by rw [ee]; exact After.no ⟨_, _, g⟩ Keep.rf Off.rf⟩
set_option maxHeartbeats 4000000 in
set_option maxRecDepth 100000 in
theorem ct_X3_sharpen {E : gE} {T : gT} {l : Launch} {V : gV} {a : Nat} {S : Dk} {h : Nat} {H : Nat → Dk} {r0 : Nat} {ρ : Nat → Nat} (hA : IsAll T a) (g : AVp V a S h H r0 ρ) : CtI E T l yX3_sharpen (gw yX3_sharpen cX3_sharpen 2 (some .int)) { frames := 5, cells := 0, slots := 0, locals := 108 } [.ref a] V (fun (r : Int32) (V' : gV) => r = (cShp S).1 ∧ After V V' a S h H (cShp S).2) := by
  refine ctI_of (L := [(0, .ref a)]) (by decide) rfl (Nat.le_of_ble_eq_true rfl) rfl (fun p e s m args below meth c C => ?_)
  obtain ⟨π, hk⟩ := g.dk
  have hD := hA.2 _ g.r5
  have ha := hA.a
  have zn6 := hk.le
  refine k_aload_n 0 1 C dX3_sharpen_0 rfl 0 rfl ?_
  refine k_get 1 4 C dX3_sharpen_1 rfl ci_X3 0 fl_X3_10 (IsArm.o ‹_›) (by decide) rfl ?_
  refine k_rwQ (g.now) ?_
  refine k_getN 4 7 C dX3_sharpen_4 rfl ci_X0 6 fn_X3_76 (IsDsk.o ‹_›) (by decide) rfl ?_
  refine k_rwI (hk.f 6 (by decide) (by decide)) ?_
  refine k_iconst 7 8 C dX3_sharpen_7 rfl (v := 1) rfl ?_
  refine k_icmp_ge 8 14 11 C dX3_sharpen_8 (by decide) rfl (fun h8 => ?_) (fun h8 => ?_)
  · refine k_aload_n 14 15 C dX3_sharpen_14 rfl 0 rfl ?_
    refine k_get 15 18 C dX3_sharpen_15 rfl ci_X3 0 fl_X3_10 (IsArm.o ‹_›) (by decide) rfl ?_
    refine k_rwQ (g.now) ?_
    refine k_getN 18 21 C dX3_sharpen_18 rfl ci_X0 5 fn_X3_69 (IsDsk.o ‹_›) (by decide) rfl ?_
    refine k_rwI (hk.f 5 (by decide) (by decide)) ?_
    refine k_istore_n 21 22 C [(1, _), (0, _)] dX3_sharpen_21 rfl (by decide) rfl ?_
    refine k_aload_n 22 23 C dX3_sharpen_22 rfl 1 rfl ?_
    refine k_callVV 23 26 C [] [] dX3_sharpen_23 rfl (ct_X3_remember hA g) mi_X3_remember ml_X3_42 im_X3_remember se_X3_remember ci_X3 (IsArm.o ‹_›) rfl rfl ⟨Nat.le_of_ble_eq_true rfl, Nat.le_of_ble_eq_true rfl⟩ (Nat.le_of_ble_eq_true rfl) (Nat.zero_le _) (Nat.zero_le _) (fun V23 p23 => ?_)
    obtain ⟨ρ', g', k0, k1, o1⟩ := p23
    have hk' := hk.same k0
    refine k_aload_n 26 27 C dX3_sharpen_26 rfl 1 rfl ?_
    refine k_get 27 30 C dX3_sharpen_27 rfl ci_X3 0 fl_X3_10 (IsArm.o ‹_›) (by decide) rfl ?_
    refine k_rwQ (g'.now) ?_
    refine k_dup 30 31 C dX3_sharpen_30 rfl rfl ?_
    refine k_getN 31 34 C dX3_sharpen_31 rfl ci_X0 6 fn_X3_76 (IsDsk.o ‹_›) (by decide) rfl ?_
    refine k_rwI (hk'.f 6 (by decide) (by decide)) ?_
    refine k_iconst 34 35 C dX3_sharpen_34 rfl (v := 1) rfl ?_
    refine k_isub 35 36 C dX3_sharpen_35 rfl  ?_
    refine k_putN 36 39 C dX3_sharpen_36 rfl ci_X0 6 fn_X3_76 (IsDsk.o hD) (by decide) rfl rfl rfl wI_off (ps_0_6 _ _ _ _) ?_
    have zk1 := hk'.fld (j := 6) (x := kf S 6 - 1) (by decide)
    refine k_aload_n 39 40 C dX3_sharpen_39 rfl 1 rfl ?_
    refine k_get 40 43 C dX3_sharpen_40 rfl ci_X3 0 fl_X3_10 (IsArm.o ‹_›) (by decide) rfl ?_
    refine k_rwQ ((show V23.2.2 a 0 = _ from g'.now)) ?_
    refine k_iconst 43 44 C dX3_sharpen_43 rfl (v := 0) rfl ?_
    refine k_putN 44 47 C dX3_sharpen_44 rfl ci_X0 5 fn_X3_69 (IsDsk.o hD) (by decide) rfl rfl rfl wI_off (ps_0_5 _ _ _ _) ?_
    have zk2 := zk1.fld (j := 5) (x := 0) (by decide)
    refine k_iload_n 47 48 C dX3_sharpen_47 rfl 0 rfl ?_
    refine k_iret 48 C dX3_sharpen_48 rfl ?_
    have ee : cShp S = (kf S 5, some (va_up (va_up (kf S) 6 (kf S 6 - 1)) 5 0, ks S, kn S, kdr S)) := by
      unfold cShp; rw [if_pos h8]
    exact ⟨by rw [ee], by rw [ee]; exact After.of g' k1 o1 ((Off.rf.wI (Nat.le_refl _) (by omega)).wI (Nat.le_refl _) (by omega)) zk2⟩
  · refine k_ldc 11 13 C dX3_sharpen_11 rfl kc_X3_91 ?_
    refine k_iret 13 C dX3_sharpen_13 rfl ?_
    have ee : cShp S = (-2000000003, none) := by
      unfold cShp; rw [if_neg h8]
    exact ⟨by rw [ee], by rw [ee]; exact After.no ⟨_, _, g⟩ Keep.rf Off.rf⟩
set_option maxHeartbeats 4000000 in
set_option maxRecDepth 100000 in
theorem ct_X3_draw {E : gE} {T : gT} {l : Launch} {V : gV} {a : Nat} {S : Dk} {h : Nat} {H : Nat → Dk} {r0 : Nat} {ρ : Nat → Nat} (hA : IsAll T a) (g : AVp V a S h H r0 ρ) : CtI E T l yX3_draw (gw yX3_draw cX3_draw 1 (some .int)) { frames := 5, cells := 0, slots := 0, locals := 108 } [.ref a] V (fun (r : Int32) (V' : gV) => r = (cDrw S).1 ∧ After V V' a S h H (cDrw S).2) := by
  refine ctI_of (L := [(0, .ref a)]) (by decide) rfl (Nat.le_of_ble_eq_true rfl) rfl (fun p e s m args below meth c C => ?_)
  obtain ⟨π, hk⟩ := g.dk
  have hD := hA.2 _ g.r5
  have ha := hA.a
  have zn6 := hk.le
  refine k_aload_n 0 1 C dX3_draw_0 rfl 0 rfl ?_
  refine k_get 1 4 C dX3_draw_1 rfl ci_X3 0 fl_X3_10 (IsArm.o ‹_›) (by decide) rfl ?_
  refine k_rwQ (g.now) ?_
  refine k_callVQ 4 7 C [] [] dX3_draw_4 rfl (ct_X0_spare hD hk) mi_X0_spare ml_X3_92 im_X0_spare se_X0_spare ci_X0 (IsDsk.o ‹_›) rfl rfl ⟨Nat.le_of_ble_eq_true rfl, Nat.le_of_ble_eq_true rfl⟩ (Nat.le_of_ble_eq_true rfl) (Nat.zero_le _) (Nat.zero_le _) (fun r4 V4 p4 => ?_)
  obtain ⟨rfl, rfl⟩ := And.intro p4.1.symm p4.2
  rcases Nat.lt_or_ge (kn S) 6 with zl | zl
  · refine k_rwQ (if_pos zl) ?_
    refine k_ifnonnullO 7 13 C dX3_draw_7 (by decide) ?_
    refine k_aload_n 13 14 C dX3_draw_13 rfl 0 rfl ?_
    refine k_callVV 14 17 C [] [] dX3_draw_14 rfl (ct_X3_remember hA g) mi_X3_remember ml_X3_42 im_X3_remember se_X3_remember ci_X3 (IsArm.o ‹_›) rfl rfl ⟨Nat.le_of_ble_eq_true rfl, Nat.le_of_ble_eq_true rfl⟩ (Nat.le_of_ble_eq_true rfl) (Nat.zero_le _) (Nat.zero_le _) (fun V14 p14 => ?_)
    obtain ⟨ρ', g', k0, k1, o1⟩ := p14
    have hk' := hk.same k0
    refine k_aload_n 17 18 C dX3_draw_17 rfl 0 rfl ?_
    refine k_get 18 21 C dX3_draw_18 rfl ci_X3 0 fl_X3_10 (IsArm.o ‹_›) (by decide) rfl ?_
    refine k_rwQ (g'.now) ?_
    refine k_callVI 21 24 C [] [] dX3_draw_21 rfl (ct_X0_beginOriginal hD hk' zl) mi_X0_beginOriginal ml_X3_96 im_X0_beginOriginal se_X0_beginOriginal ci_X0 (IsDsk.o ‹_›) rfl rfl ⟨Nat.le_of_ble_eq_true rfl, Nat.le_of_ble_eq_true rfl⟩ (Nat.le_of_ble_eq_true rfl) (Nat.zero_le _) (Nat.zero_le _) (fun r21 V21 p21 => ?_)
    obtain ⟨rfl, z1, z2⟩ := p21
    refine k_iret 24 C dX3_draw_24 rfl ?_
    have ee : cDrw S = (nI (kn S), some (kf S, ks S, kn S + 1, va_up (kdr S) (kn S) (dBegin (-1) 1 1))) := by
      unfold cDrw; rw [if_pos zl]
    exact ⟨by rw [ee], by rw [ee]; exact After.of g' k1 o1 z2 z1⟩
  · refine k_rwQ (if_neg (Nat.not_lt.mpr zl)) ?_
    refine k_ifnonnullN 7 10 C dX3_draw_7 rfl ?_
    refine k_ldc 10 12 C dX3_draw_10 rfl kc_X3_91 ?_
    refine k_iret 12 C dX3_draw_12 rfl ?_
    have ee : cDrw S = (-2000000003, none) := by
      unfold cDrw; rw [if_neg (Nat.not_lt.mpr zl)]
    exact ⟨by rw [ee], by rw [ee]; exact After.no ⟨_, _, g⟩ Keep.rf Off.rf⟩
set_option maxHeartbeats 4000000 in
set_option maxRecDepth 100000 in
theorem ct_X3_why {E : gE} {T : gT} {l : Launch} {V : gV} {i : Int32} {a : Nat} {S : Dk} {h : Nat} {H : Nat → Dk} {r0 : Nat} {ρ : Nat → Nat} (hA : IsAll T a) (g : AVp V a S h H r0 ρ) : CtI E T l yX3_why (gw yX3_why cX3_why 3 (some .int)) { frames := 5, cells := 0, slots := 0, locals := 116 } [.ref a, .int i] V (fun (r : Int32) (V' : gV) => r = cWhy S i ∧ After V V' a S h H none) := by
  refine ctI_of (L := [(0, .ref a), (1, .int i)]) (by decide) rfl (Nat.le_of_ble_eq_true rfl) rfl (fun p e s m args below meth c C => ?_)
  obtain ⟨π, hk⟩ := g.dk
  have hD := hA.2 _ g.r5
  have ha := hA.a
  have zn6 := hk.le
  refine k_aload_n 0 1 C dX3_why_0 rfl 0 rfl ?_
  refine k_get 1 4 C dX3_why_1 rfl ci_X3 0 fl_X3_10 (IsArm.o ‹_›) (by decide) rfl ?_
  refine k_rwQ (g.now) ?_
  refine k_iload_n 4 5 C dX3_why_4 rfl 1 rfl ?_
  refine k_callVQ 5 8 C [_] [] dX3_why_5 rfl (ct_X0_find hD hk) mi_X0_find ml_X3_100 im_X0_find se_X0_find ci_X0 (IsDsk.o ‹_›) rfl rfl ⟨Nat.le_of_ble_eq_true rfl, Nat.le_of_ble_eq_true rfl⟩ (Nat.le_of_ble_eq_true rfl) (Nat.zero_le _) (Nat.zero_le _) (fun r5 V5 p5 => ?_)
  obtain ⟨rfl, rfl⟩ := And.intro p5.1.symm p5.2
  rcases sFind_cases (dAd a r0) S π hk.le i with ⟨zc, zr⟩ | ⟨j, zj, rfl, zr⟩
  · refine k_rwQ zr ?_
    refine k_astore_nq 8 9 C [(2, _), (0, _), (1, _)] dX3_why_8 rfl (by decide) rfl ?_
    refine k_aload_nq 9 10 C dX3_why_9 rfl 0 rfl ?_
    refine k_ifnonnullN 10 13 C dX3_why_10 rfl ?_
    refine k_ldc 13 15 C dX3_why_13 rfl kc_X3_35 ?_
    refine k_goto 15 27 C dX3_why_15 (by decide) ?_
    refine k_iret 27 C dX3_why_27 rfl ?_
    first
      | exact ⟨by unfold cWhy; rw [if_neg zc], After.no ⟨_, _, g⟩ Keep.rf Off.rf⟩
      | exact ⟨by unfold cWhy; rw [if_pos zi, zcl]; exact p24.1, After.of0 g p24.2.2.1 p24.2.1⟩
  · refine k_rwQ zr ?_
    have zq := hD.d (π j) (hk.p j (by omega))
    have zv := hk.d j zj
    have zi : inD S (nI j) := jin hk.le zj
    have zcl : (nI j).toNatClampNeg = j := nI_clamp (by omega)
    refine k_astore_n 8 9 C [(2, _), (0, _), (1, _)] dX3_why_8 rfl (by decide) rfl ?_
    refine k_aload_n 9 10 C dX3_why_9 rfl 0 rfl ?_
    refine k_ifnonnullO 10 18 C dX3_why_10 (by decide) ?_
    refine k_aload_n 18 19 C dX3_why_18 rfl 1 rfl ?_
    refine k_get 19 22 C dX3_why_19 rfl ci_X3 0 fl_X3_10 (IsArm.o ‹_›) (by decide) rfl ?_
    refine k_rwQ (g.now) ?_
    refine k_iload_n 22 23 C dX3_why_22 rfl 2 rfl ?_
    refine k_aload_n 23 24 C dX3_why_23 rfl 0 rfl ?_
    refine k_callVI 24 27 C [_, _] [] dX3_why_24 rfl (ct_X0_reasonAgainst hD hk zj) mi_X0_reasonAgainst ml_X3_126 im_X0_reasonAgainst se_X0_reasonAgainst ci_X0 (IsDsk.o ‹_›) rfl rfl ⟨Nat.le_of_ble_eq_true rfl, Nat.le_of_ble_eq_true rfl⟩ (Nat.le_of_ble_eq_true rfl) (Nat.zero_le _) (Nat.zero_le _) (fun r24 V24 p24 => ?_)
    refine k_iret 27 C dX3_why_27 rfl ?_
    first
      | exact ⟨by unfold cWhy; rw [if_neg zc], After.no ⟨_, _, g⟩ Keep.rf Off.rf⟩
      | exact ⟨by unfold cWhy; rw [if_pos zi, zcl]; exact p24.1, After.of0 g p24.2.2.1 p24.2.1⟩
set_option maxHeartbeats 4000000 in
set_option maxRecDepth 100000 in
theorem ct_X3_copy {E : gE} {T : gT} {l : Launch} {V : gV} {i : Int32} {a : Nat} {S : Dk} {h : Nat} {H : Nat → Dk} {r0 : Nat} {ρ : Nat → Nat} (hA : IsAll T a) (g : AVp V a S h H r0 ρ) : CtI E T l yX3_copy (gw yX3_copy cX3_copy 3 (some .int)) { frames := 5, cells := 0, slots := 0, locals := 116 } [.ref a, .int i] V (fun (r : Int32) (V' : gV) => r = (cCpy S i).1 ∧ After V V' a S h H (cCpy S i).2) := by
  refine ctI_of (L := [(0, .ref a), (1, .int i)]) (by decide) rfl (Nat.le_of_ble_eq_true rfl) rfl (fun p e s m args below meth c C => ?_)
  obtain ⟨π, hk⟩ := g.dk
  have hD := hA.2 _ g.r5
  have ha := hA.a
  have zn6 := hk.le
  refine k_aload_n 0 1 C dX3_copy_0 rfl 0 rfl ?_
  refine k_get 1 4 C dX3_copy_1 rfl ci_X3 0 fl_X3_10 (IsArm.o ‹_›) (by decide) rfl ?_
  refine k_rwQ (g.now) ?_
  refine k_iload_n 4 5 C dX3_copy_4 rfl 1 rfl ?_
  refine k_callVQ 5 8 C [_] [] dX3_copy_5 rfl (ct_X0_find hD hk) mi_X0_find ml_X3_100 im_X0_find se_X0_find ci_X0 (IsDsk.o ‹_›) rfl rfl ⟨Nat.le_of_ble_eq_true rfl, Nat.le_of_ble_eq_true rfl⟩ (Nat.le_of_ble_eq_true rfl) (Nat.zero_le _) (Nat.zero_le _) (fun r5 V5 p5 => ?_)
  obtain ⟨rfl, rfl⟩ := And.intro p5.1.symm p5.2
  rcases sFind_cases (dAd a r0) S π hk.le i with ⟨zc, zr⟩ | ⟨j, zj, rfl, zr⟩
  · refine k_rwQ zr ?_
    refine k_astore_nq 8 9 C [(2, _), (0, _), (1, _)] dX3_copy_8 rfl (by decide) rfl ?_
    refine k_aload_nq 9 10 C dX3_copy_9 rfl 0 rfl ?_
    refine k_ifnonnullN 10 13 C dX3_copy_10 rfl ?_
    refine k_ldc 13 15 C dX3_copy_13 rfl kc_X3_35 ?_
    refine k_iret 15 C dX3_copy_15 rfl ?_
    have ee : cCpy S i = (-2000000001, none) := by
      unfold cCpy; rw [if_pos zc]
    exact ⟨by rw [ee], by rw [ee]; exact After.no ⟨_, _, g⟩ Keep.rf Off.rf⟩
  · refine k_rwQ zr ?_
    have zq := hD.d (π j) (hk.p j (by omega))
    have zv := hk.d j zj
    have zi : inD S (nI j) := jin hk.le zj
    have zcl : (nI j).toNatClampNeg = j := nI_clamp (by omega)
    refine k_astore_n 8 9 C [(2, _), (0, _), (1, _)] dX3_copy_8 rfl (by decide) rfl ?_
    refine k_aload_n 9 10 C dX3_copy_9 rfl 0 rfl ?_
    refine k_ifnonnullO 10 16 C dX3_copy_10 (by decide) ?_
    refine k_aload_n 16 17 C dX3_copy_16 rfl 1 rfl ?_
    refine k_get 17 20 C dX3_copy_17 rfl ci_X3 0 fl_X3_10 (IsArm.o ‹_›) (by decide) rfl ?_
    refine k_rwQ (g.now) ?_
    refine k_iload_n 20 21 C dX3_copy_20 rfl 2 rfl ?_
    refine k_aload_n 21 22 C dX3_copy_21 rfl 0 rfl ?_
    refine k_callVI 22 25 C [_, _] [] dX3_copy_22 rfl (ct_X0_reasonAgainst hD hk zj) mi_X0_reasonAgainst ml_X3_126 im_X0_reasonAgainst se_X0_reasonAgainst ci_X0 (IsDsk.o ‹_›) rfl rfl ⟨Nat.le_of_ble_eq_true rfl, Nat.le_of_ble_eq_true rfl⟩ (Nat.le_of_ble_eq_true rfl) (Nat.zero_le _) (Nat.zero_le _) (fun r22 V22 p22 => ?_)
    obtain ⟨rfl, z1, z2, z3⟩ := p22
    refine k_if_eq 25 31 28 C dX3_copy_25 (by decide) rfl (fun h25 => ?_) (fun h25 => ?_)
    · obtain ⟨zl, z4⟩ := z3 h25
      have g2 := g.upd z2 z1
      have hin := dAd_in (a := a) g.r5
      refine k_aload_n 31 32 C dX3_copy_31 rfl 1 rfl ?_
      refine k_callVV 32 35 C [] [] dX3_copy_32 rfl (ct_X3_remember hA g2) mi_X3_remember ml_X3_42 im_X3_remember se_X3_remember ci_X3 (IsArm.o ‹_›) rfl rfl ⟨Nat.le_of_ble_eq_true rfl, Nat.le_of_ble_eq_true rfl⟩ (Nat.le_of_ble_eq_true rfl) (Nat.zero_le _) (Nat.zero_le _) (fun V32 p32 => ?_)
      obtain ⟨ρ', g', k0, k1, o1⟩ := p32
      have hk' := z1.same k0
      have z5 := z4.same k0 (by omega) (by have := hk'.p _ zl; omega)
      refine k_aload_n 35 36 C dX3_copy_35 rfl 1 rfl ?_
      refine k_get 36 39 C dX3_copy_36 rfl ci_X3 0 fl_X3_10 (IsArm.o ‹_›) (by decide) rfl ?_
      refine k_rwQ (g'.now) ?_
      have ztw : dW (trD S (nI j) (kdr S j)) := fun _ => rfl
      refine k_callVI 39 42 C [] [] dX3_copy_39 rfl (ct_X0_keepTraced hD hk' zl z5 ztw) mi_X0_keepTraced ml_X3_130 im_X0_keepTraced se_X0_keepTraced ci_X0 (IsDsk.o ‹_›) rfl rfl ⟨Nat.le_of_ble_eq_true rfl, Nat.le_of_ble_eq_true rfl⟩ (Nat.le_of_ble_eq_true rfl) (Nat.zero_le _) (Nat.zero_le _) (fun r39 V39 p39 => ?_)
      obtain ⟨rfl, z6, z7⟩ := p39
      refine k_iret 42 C dX3_copy_42 rfl ?_
      have ee : cCpy S (nI j) = (nI (kn S), some (kepS S (trD S (nI j) (kdr S j)))) := by
        unfold cCpy; rw [if_neg (Classical.not_not.mpr zi), zcl, if_neg (Classical.not_not.mpr h25)]
      exact ⟨by rw [ee], by rw [ee]; exact After.of g' ((z2.keep (by omega)).trans k1) ((z2.wide (by omega) (by omega)).trans o1) z7 z6⟩
    · have zx : ¬ rsn S (nI j) (kdr S j) = 0 := h25
      refine k_ldc 28 30 C dX3_copy_28 rfl kc_X3_113 ?_
      refine k_iret 30 C dX3_copy_30 rfl ?_
      have ee : cCpy S (nI j) = (-2000000002, none) := by
        unfold cCpy; rw [if_neg (Classical.not_not.mpr zi), zcl, if_pos h25]
      exact ⟨by rw [ee], by rw [ee]; exact After.of0 g z2 z1⟩
set_option maxHeartbeats 4000000 in
set_option maxRecDepth 100000 in
theorem ct_X3_remove {E : gE} {T : gT} {l : Launch} {V : gV} {i : Int32} {a : Nat} {S : Dk} {h : Nat} {H : Nat → Dk} {r0 : Nat} {ρ : Nat → Nat} (hA : IsAll T a) (g : AVp V a S h H r0 ρ) : CtI E T l yX3_remove (gw yX3_remove cX3_remove 2 (some .int)) { frames := 5, cells := 0, slots := 0, locals := 108 } [.ref a, .int i] V (fun (r : Int32) (V' : gV) => r = (cRem S i).1 ∧ After V V' a S h H (cRem S i).2) := by
  refine ctI_of (L := [(0, .ref a), (1, .int i)]) (by decide) rfl (Nat.le_of_ble_eq_true rfl) rfl (fun p e s m args below meth c C => ?_)
  obtain ⟨π, hk⟩ := g.dk
  have hD := hA.2 _ g.r5
  have ha := hA.a
  have zn6 := hk.le
  refine k_aload_n 0 1 C dX3_remove_0 rfl 0 rfl ?_
  refine k_get 1 4 C dX3_remove_1 rfl ci_X3 0 fl_X3_10 (IsArm.o ‹_›) (by decide) rfl ?_
  refine k_rwQ (g.now) ?_
  refine k_iload_n 4 5 C dX3_remove_4 rfl 1 rfl ?_
  refine k_callVQ 5 8 C [_] [] dX3_remove_5 rfl (ct_X0_find hD hk) mi_X0_find ml_X3_100 im_X0_find se_X0_find ci_X0 (IsDsk.o ‹_›) rfl rfl ⟨Nat.le_of_ble_eq_true rfl, Nat.le_of_ble_eq_true rfl⟩ (Nat.le_of_ble_eq_true rfl) (Nat.zero_le _) (Nat.zero_le _) (fun r5 V5 p5 => ?_)
  obtain ⟨rfl, rfl⟩ := And.intro p5.1.symm p5.2
  rcases sFind_cases (dAd a r0) S π hk.le i with ⟨zc, zr⟩ | ⟨j, zj, rfl, zr⟩
  · refine k_rwQ zr ?_
    refine k_ifnonnullN 8 11 C dX3_remove_8 rfl ?_
    refine k_ldc 11 13 C dX3_remove_11 rfl kc_X3_35 ?_
    refine k_iret 13 C dX3_remove_13 rfl ?_
    have ee : cRem S i = (-2000000001, none) := by
      unfold cRem; rw [if_pos zc]
    exact ⟨by rw [ee], by rw [ee]; exact After.no ⟨_, _, g⟩ Keep.rf Off.rf⟩
  · refine k_rwQ zr ?_
    have zq := hD.d (π j) (hk.p j (by omega))
    have zv := hk.d j zj
    have zi : inD S (nI j) := jin hk.le zj
    have zcl : (nI j).toNatClampNeg = j := nI_clamp (by omega)
    refine k_ifnonnullO 8 14 C dX3_remove_8 (by decide) ?_
    refine k_aload_n 14 15 C dX3_remove_14 rfl 0 rfl ?_
    refine k_get 15 18 C dX3_remove_15 rfl ci_X3 0 fl_X3_10 (IsArm.o ‹_›) (by decide) rfl ?_
    refine k_rwQ (g.now) ?_
    refine k_iload_n 18 19 C dX3_remove_18 rfl 1 rfl ?_
    refine k_callVI 19 22 C [_] [] dX3_remove_19 rfl (ct_X0_hasCopies hD hk) mi_X0_hasCopies ml_X3_109 im_X0_hasCopies se_X0_hasCopies ci_X0 (IsDsk.o ‹_›) rfl rfl ⟨Nat.le_of_ble_eq_true rfl, Nat.le_of_ble_eq_true rfl⟩ (Nat.le_of_ble_eq_true rfl) (Nat.zero_le _) (Nat.zero_le _) (fun r19 V19 p19 => ?_)
    obtain ⟨rfl, rfl⟩ := And.intro p19.1.symm p19.2
    refine k_ifb_eq 22 28 25 C dX3_remove_22 (by decide) rfl (fun h22 => ?_) (fun h22 => ?_)
    · refine k_aload_n 28 29 C dX3_remove_28 rfl 0 rfl ?_
      refine k_callVV 29 32 C [] [] dX3_remove_29 rfl (ct_X3_remember hA g) mi_X3_remember ml_X3_42 im_X3_remember se_X3_remember ci_X3 (IsArm.o ‹_›) rfl rfl ⟨Nat.le_of_ble_eq_true rfl, Nat.le_of_ble_eq_true rfl⟩ (Nat.le_of_ble_eq_true rfl) (Nat.zero_le _) (Nat.zero_le _) (fun V29 p29 => ?_)
      obtain ⟨ρ', g', k0, k1, o1⟩ := p29
      have hk' := hk.same k0
      refine k_aload_n 32 33 C dX3_remove_32 rfl 0 rfl ?_
      refine k_get 33 36 C dX3_remove_33 rfl ci_X3 0 fl_X3_10 (IsArm.o ‹_›) (by decide) rfl ?_
      refine k_rwQ (g'.now) ?_
      refine k_iload_n 36 37 C dX3_remove_36 rfl 1 rfl ?_
      refine k_callVV 37 40 C [_] [] dX3_remove_37 rfl (ct_X0_takeAway hD hk' zj) mi_X0_takeAway ml_X3_122 im_X0_takeAway se_X0_takeAway ci_X0 (IsDsk.o ‹_›) rfl rfl ⟨Nat.le_of_ble_eq_true rfl, Nat.le_of_ble_eq_true rfl⟩ (Nat.le_of_ble_eq_true rfl) (Nat.zero_le _) (Nat.zero_le _) (fun V37 p37 => ?_)
      obtain ⟨z1, z2⟩ := p37
      have g3 := g'.upd z2 z1
      refine k_aload_n 40 41 C dX3_remove_40 rfl 0 rfl ?_
      refine k_get 41 44 C dX3_remove_41 rfl ci_X3 0 fl_X3_10 (IsArm.o ‹_›) (by decide) rfl ?_
      refine k_rwQ (g3.now) ?_
      refine k_getN 44 47 C dX3_remove_44 rfl ci_X0 11 fn_X3_66 (IsDsk.o ‹_›) (by decide) rfl ?_
      refine k_rwI (y := nI (kn S - 1)) z1.n ?_
      refine k_iret 47 C dX3_remove_47 rfl ?_
      have ee : cRem S (nI j) = (nI (kn S - 1), some (rmS S j (kn S - 1))) := by
        unfold cRem; rw [if_neg (Classical.not_not.mpr zi), if_neg h22, zcl]
      exact ⟨by rw [ee], by rw [ee]; exact After.of g' k1 o1 z2 z1⟩
    · refine k_ldc 25 27 C dX3_remove_25 rfl kc_X3_113 ?_
      refine k_iret 27 C dX3_remove_27 rfl ?_
      have ee : cRem S (nI j) = (-2000000002, none) := by
        unfold cRem; rw [if_neg (Classical.not_not.mpr zi), if_pos h22]
      exact ⟨by rw [ee], by rw [ee]; exact After.no ⟨_, _, g⟩ Keep.rf Off.rf⟩
set_option maxHeartbeats 4000000 in
set_option maxRecDepth 100000 in
theorem ct_X3_point {E : gE} {T : gT} {l : Launch} {V : gV} {i x y q : Int32} {a : Nat} {S : Dk} {h : Nat} {H : Nat → Dk} {r0 : Nat} {ρ : Nat → Nat} (hA : IsAll T a) (g : AVp V a S h H r0 ρ) : CtI E T l yX3_point (gw yX3_point cX3_point 6 (some .int)) { frames := 5, cells := 0, slots := 0, locals := 108 } [.ref a, .int i, .int x, .int y, .int q] V (fun (r : Int32) (V' : gV) => r = (cPnt S i x y q).1 ∧ After V V' a S h H (cPnt S i x y q).2) := by
  refine ctI_of (L := [(0, .ref a), (1, .int i), (2, .int x), (3, .int y), (4, .int q)]) (by decide) rfl (Nat.le_of_ble_eq_true rfl) rfl (fun p e s m args below meth c C => ?_)
  obtain ⟨π, hk⟩ := g.dk
  have hD := hA.2 _ g.r5
  have ha := hA.a
  have zn6 := hk.le
  refine k_aload_n 0 1 C dX3_point_0 rfl 0 rfl ?_
  refine k_get 1 4 C dX3_point_1 rfl ci_X3 0 fl_X3_10 (IsArm.o ‹_›) (by decide) rfl ?_
  refine k_rwQ (g.now) ?_
  refine k_iload_n 4 5 C dX3_point_4 rfl 1 rfl ?_
  refine k_callVQ 5 8 C [_] [] dX3_point_5 rfl (ct_X0_find hD hk) mi_X0_find ml_X3_100 im_X0_find se_X0_find ci_X0 (IsDsk.o ‹_›) rfl rfl ⟨Nat.le_of_ble_eq_true rfl, Nat.le_of_ble_eq_true rfl⟩ (Nat.le_of_ble_eq_true rfl) (Nat.zero_le _) (Nat.zero_le _) (fun r5 V5 p5 => ?_)
  obtain ⟨rfl, rfl⟩ := And.intro p5.1.symm p5.2
  rcases sFind_cases (dAd a r0) S π hk.le i with ⟨zc, zr⟩ | ⟨j, zj, rfl, zr⟩
  · refine k_rwQ zr ?_
    refine k_astoreq 8 10 C [(5, _), (0, _), (1, _), (2, _), (3, _), (4, _)] dX3_point_8 rfl (by decide) rfl ?_
    refine k_aloadq 10 12 C dX3_point_10 rfl 0 rfl ?_
    refine k_ifnullN 12 47 C dX3_point_12 (by decide) ?_
    refine k_ldc 47 49 C dX3_point_47 rfl kc_X3_35 ?_
    refine k_iret 49 C dX3_point_49 rfl ?_
    first
      | (have ee : cPnt S i x y q = (-2000000001, none) := by
           unfold cPnt; rw [if_pos (fun zz => zc zz.1)]
         exact ⟨by rw [ee], by rw [ee]; exact After.no ⟨_, _, g⟩ Keep.rf Off.rf⟩)
      | (have ee : cPnt S (nI j) x y q = (-2000000001, none) := by
           unfold cPnt; rw [if_pos (fun zz => by first | exact h23 zz.2.1 | exact h34 zz.2.2.1 | exact h44 zz.2.2.2)]
         exact ⟨by rw [ee], by rw [ee]; exact After.no ⟨_, _, g⟩ Keep.rf Off.rf⟩)
  · refine k_rwQ zr ?_
    have zq := hD.d (π j) (hk.p j (by omega))
    have zv := hk.d j zj
    have zi : inD S (nI j) := jin hk.le zj
    have zcl : (nI j).toNatClampNeg = j := nI_clamp (by omega)
    refine k_astore 8 10 C [(5, _), (0, _), (1, _), (2, _), (3, _), (4, _)] dX3_point_8 rfl (by decide) rfl ?_
    refine k_aload 10 12 C dX3_point_10 rfl 0 rfl ?_
    refine k_ifnullO 12 15 C dX3_point_12 rfl ?_
    refine k_iload_n 15 16 C dX3_point_15 rfl 3 rfl ?_
    refine k_iconst 16 17 C dX3_point_16 rfl (v := 0) rfl ?_
    refine k_sipush 17 20 C dX3_point_17 rfl (v := 1000) rfl ?_
    refine k_callSI 20 23 C [_, _, _] [] dX3_point_20 rfl ct_X3_isWithin mi_X3_isWithin ml_X3_31 st_X3_isWithin rfl rfl ⟨Nat.le_of_ble_eq_true rfl, Nat.le_of_ble_eq_true rfl⟩ (Nat.le_of_ble_eq_true rfl) (Nat.zero_le _) (Nat.zero_le _) (fun r20 V20 p20 => ?_)
    obtain ⟨rfl, rfl⟩ := And.intro p20.1.symm p20.2
    refine k_ifb_eq 23 47 26 C dX3_point_23 (by decide) rfl (fun h23 => ?_) (fun h23 => ?_)
    · refine k_ldc 47 49 C dX3_point_47 rfl kc_X3_35 ?_
      refine k_iret 49 C dX3_point_49 rfl ?_
      first
        | (have ee : cPnt S i x y q = (-2000000001, none) := by
             unfold cPnt; rw [if_pos (fun zz => zc zz.1)]
           exact ⟨by rw [ee], by rw [ee]; exact After.no ⟨_, _, g⟩ Keep.rf Off.rf⟩)
        | (have ee : cPnt S (nI j) x y q = (-2000000001, none) := by
             unfold cPnt; rw [if_pos (fun zz => by first | exact h23 zz.2.1 | exact h34 zz.2.2.1 | exact h44 zz.2.2.2)]
           exact ⟨by rw [ee], by rw [ee]; exact After.no ⟨_, _, g⟩ Keep.rf Off.rf⟩)
    · refine k_iload_n 26 27 C dX3_point_26 rfl 4 rfl ?_
      refine k_iconst 27 28 C dX3_point_27 rfl (v := 0) rfl ?_
      refine k_sipush 28 31 C dX3_point_28 rfl (v := 1000) rfl ?_
      refine k_callSI 31 34 C [_, _, _] [] dX3_point_31 rfl ct_X3_isWithin mi_X3_isWithin ml_X3_31 st_X3_isWithin rfl rfl ⟨Nat.le_of_ble_eq_true rfl, Nat.le_of_ble_eq_true rfl⟩ (Nat.le_of_ble_eq_true rfl) (Nat.zero_le _) (Nat.zero_le _) (fun r31 V31 p31 => ?_)
      obtain ⟨rfl, rfl⟩ := And.intro p31.1.symm p31.2
      refine k_ifb_eq 34 47 37 C dX3_point_34 (by decide) rfl (fun h34 => ?_) (fun h34 => ?_)
      · refine k_ldc 47 49 C dX3_point_47 rfl kc_X3_35 ?_
        refine k_iret 49 C dX3_point_49 rfl ?_
        first
          | (have ee : cPnt S i x y q = (-2000000001, none) := by
               unfold cPnt; rw [if_pos (fun zz => zc zz.1)]
             exact ⟨by rw [ee], by rw [ee]; exact After.no ⟨_, _, g⟩ Keep.rf Off.rf⟩)
          | (have ee : cPnt S (nI j) x y q = (-2000000001, none) := by
               unfold cPnt; rw [if_pos (fun zz => by first | exact h23 zz.2.1 | exact h34 zz.2.2.1 | exact h44 zz.2.2.2)]
             exact ⟨by rw [ee], by rw [ee]; exact After.no ⟨_, _, g⟩ Keep.rf Off.rf⟩)
      · refine k_iload 37 39 C dX3_point_37 rfl 5 rfl ?_
        refine k_iconst 39 40 C dX3_point_39 rfl (v := 0) rfl ?_
        refine k_iconst 40 41 C dX3_point_40 rfl (v := 1) rfl ?_
        refine k_callSI 41 44 C [_, _, _] [] dX3_point_41 rfl ct_X3_isWithin mi_X3_isWithin ml_X3_31 st_X3_isWithin rfl rfl ⟨Nat.le_of_ble_eq_true rfl, Nat.le_of_ble_eq_true rfl⟩ (Nat.le_of_ble_eq_true rfl) (Nat.zero_le _) (Nat.zero_le _) (fun r41 V41 p41 => ?_)
        obtain ⟨rfl, rfl⟩ := And.intro p41.1.symm p41.2
        refine k_ifb_ne 44 50 47 C dX3_point_44 (by decide) rfl (fun h44 => ?_) (fun h44 => ?_)
        · have zok : ¬ ¬ (inD S (nI j) ∧ okR x 0 1000 ∧ okR y 0 1000 ∧ okR q 0 1) := fun zz => zz ⟨zi, h23, h34, h44⟩
          refine k_aload 50 52 C dX3_point_50 rfl 0 rfl ?_
          refine k_callVI 52 55 C [] [] dX3_point_52 rfl (ct_X1_isCopy zq zv) mi_X1_isCopy ml_X3_104 im_X1_isCopy se_X1_isCopy ci_X1 (IsDrw.o zq) rfl rfl ⟨Nat.le_of_ble_eq_true rfl, Nat.le_of_ble_eq_true rfl⟩ (Nat.le_of_ble_eq_true rfl) (Nat.zero_le _) (Nat.zero_le _) (fun r52 V52 p52 => ?_)
          obtain ⟨rfl, rfl⟩ := And.intro p52.1.symm p52.2
          refine k_ifb_ne 55 69 58 C dX3_point_55 (by decide) rfl (fun h55 => ?_) (fun h55 => ?_)
          · refine k_ldc 69 71 C dX3_point_69 rfl kc_X3_113 ?_
            refine k_iret 71 C dX3_point_71 rfl ?_
            have ee : cPnt S (nI j) x y q = (-2000000002, none) := by
              unfold cPnt; rw [if_neg zok, zcl, if_pos (by first | exact Or.inl h55 | exact Or.inr h66)]
            exact ⟨by rw [ee], by rw [ee]; exact After.no ⟨_, _, g⟩ Keep.rf Off.rf⟩
          · refine k_aload_n 58 59 C dX3_point_58 rfl 1 rfl ?_
            refine k_get 59 62 C dX3_point_59 rfl ci_X3 0 fl_X3_10 (IsArm.o ‹_›) (by decide) rfl ?_
            refine k_rwQ (g.now) ?_
            refine k_iload_n 62 63 C dX3_point_62 rfl 2 rfl ?_
            refine k_callVI 63 66 C [_] [] dX3_point_63 rfl (ct_X0_hasCopies hD hk) mi_X0_hasCopies ml_X3_109 im_X0_hasCopies se_X0_hasCopies ci_X0 (IsDsk.o ‹_›) rfl rfl ⟨Nat.le_of_ble_eq_true rfl, Nat.le_of_ble_eq_true rfl⟩ (Nat.le_of_ble_eq_true rfl) (Nat.zero_le _) (Nat.zero_le _) (fun r63 V63 p63 => ?_)
            obtain ⟨rfl, rfl⟩ := And.intro p63.1.symm p63.2
            refine k_ifb_eq 66 72 69 C dX3_point_66 (by decide) rfl (fun h66 => ?_) (fun h66 => ?_)
            · have zno : ¬ (¬ rpa (kdr S j) = -1 ∨ hcp S (nI j) (kn S) = true) := fun zz => zz.elim h55 h66
              refine k_aload 72 74 C dX3_point_72 rfl 0 rfl ?_
              refine k_callVI 74 77 C [] [] dX3_point_74 rfl (ct_X1_isFull zq zv) mi_X1_isFull ml_X3_114 im_X1_isFull se_X1_isFull ci_X1 (IsDrw.o zq) rfl rfl ⟨Nat.le_of_ble_eq_true rfl, Nat.le_of_ble_eq_true rfl⟩ (Nat.le_of_ble_eq_true rfl) (Nat.zero_le _) (Nat.zero_le _) (fun r74 V74 p74 => ?_)
              obtain ⟨rfl, rfl⟩ := And.intro p74.1.symm p74.2
              refine k_ifb_eq 77 83 80 C dX3_point_77 (by decide) rfl (fun h77 => ?_) (fun h77 => ?_)
              · have zf : rn (kdr S j) < 20 := by
                  have z1 : ¬ ¬ nI (rn (kdr S j)) < nI 20 := h77
                  rw [nI_ltI (by have := zv.le; omega) (by omega)] at z1; omega
                refine k_aload_n 83 84 C dX3_point_83 rfl 1 rfl ?_
                refine k_callVV 84 87 C [] [] dX3_point_84 rfl (ct_X3_remember hA g) mi_X3_remember ml_X3_42 im_X3_remember se_X3_remember ci_X3 (IsArm.o ‹_›) rfl rfl ⟨Nat.le_of_ble_eq_true rfl, Nat.le_of_ble_eq_true rfl⟩ (Nat.le_of_ble_eq_true rfl) (Nat.zero_le _) (Nat.zero_le _) (fun V84 p84 => ?_)
                obtain ⟨ρ', g', k0, k1, o1⟩ := p84
                have hk' := hk.same k0
                have zv' := hk'.d j zj
                refine k_aload 87 89 C dX3_point_87 rfl 0 rfl ?_
                refine k_iload_n 89 90 C dX3_point_89 rfl 3 rfl ?_
                refine k_i2l 90 91 C dX3_point_90 rfl  ?_
                refine k_iload_n 91 92 C dX3_point_91 rfl 4 rfl ?_
                refine k_i2l 92 93 C dX3_point_92 rfl  ?_
                refine k_iload 93 95 C dX3_point_93 rfl 5 rfl ?_
                refine k_iconst 95 96 C dX3_point_95 rfl (v := 1) rfl ?_
                refine k_icmp_ne 96 103 99 C dX3_point_96 (by decide) rfl (fun h96 => ?_) (fun h96 => ?_)
                · refine k_iconst 103 104 C dX3_point_103 rfl (v := (-1)) rfl ?_
                  refine k_callVV 104 107 C [_, _, _] [] dX3_point_104 rfl (ct_X1_add zq zv' zf) mi_X1_add ml_X3_117 im_X1_add se_X1_add ci_X1 (IsDrw.o zq) rfl rfl ⟨Nat.le_of_ble_eq_true rfl, Nat.le_of_ble_eq_true rfl⟩ (Nat.le_of_ble_eq_true rfl) (Nat.zero_le _) (Nat.zero_le _) (fun V104 p104 => ?_)
                  obtain ⟨z1, z2⟩ := p104
                  refine k_aload 107 109 C dX3_point_107 rfl 0 rfl ?_
                  refine k_getN 109 112 C dX3_point_109 rfl ci_X1 7 fn_X3_121 (IsDrw.o zq) (by decide) rfl ?_
                  refine k_rwI (y := nI (rn (kdr S j) + 1)) z1.f7 ?_
                  refine k_iconst 112 113 C dX3_point_112 rfl (v := 1) rfl ?_
                  refine k_isub 113 114 C dX3_point_113 rfl  ?_
                  refine k_rwI (y := nI (rn (kdr S j))) (by show nI (rn (kdr S j) + 1) - nI 1 = _; rw [pk_sub (by omega)]; rfl) ?_
                  refine k_iret 114 C dX3_point_114 rfl ?_
                  have zw : ∀ v : Int32, dW (dAdd (kdr S j) x.toInt64 y.toInt64 v) := fun v _ => by
                    show va_up (rl (kdr S j)) (rn (kdr S j)) (if rn (kdr S j) = 0 then -1 else v) 0 = -1
                    by_cases z0 : rn (kdr S j) = 0
                    · rw [z0, va_up_self, if_pos rfl]
                    · rw [va_up_ne _ _ (fun zz => z0 zz.symm)]; exact hk.w j zj (by omega)
                  have ee : cPnt S (nI j) x y q = (nI (rn (kdr S j)), some (kf S, ks S, kn S, va_up (kdr S) j (dAdd (kdr S j) x.toInt64 y.toInt64 (if q = 1 then 1 else -1)))) := by
                    unfold cPnt; rw [if_neg zok, zcl, if_neg zno, if_neg (Classical.not_not.mpr zf)]
                  rw [ee]
                  have zp := hk'.p j (by omega)
                  first
                    | exact ⟨rfl, After.of g' k1 o1 (z2.wide (by omega) (by omega)) (hk'.drw zj z2 (by rw [if_neg h96]; exact z1) (zw _))⟩
                    | exact ⟨rfl, After.of g' k1 o1 (z2.wide (by omega) (by omega)) (hk'.drw zj z2 (by rw [if_pos h96]; exact z1) (zw _))⟩
                · refine k_iconst 99 100 C dX3_point_99 rfl (v := 1) rfl ?_
                  refine k_goto 100 104 C dX3_point_100 (by decide) ?_
                  refine k_callVV 104 107 C [_, _, _] [] dX3_point_104 rfl (ct_X1_add zq zv' zf) mi_X1_add ml_X3_117 im_X1_add se_X1_add ci_X1 (IsDrw.o zq) rfl rfl ⟨Nat.le_of_ble_eq_true rfl, Nat.le_of_ble_eq_true rfl⟩ (Nat.le_of_ble_eq_true rfl) (Nat.zero_le _) (Nat.zero_le _) (fun V104 p104 => ?_)
                  obtain ⟨z1, z2⟩ := p104
                  refine k_aload 107 109 C dX3_point_107 rfl 0 rfl ?_
                  refine k_getN 109 112 C dX3_point_109 rfl ci_X1 7 fn_X3_121 (IsDrw.o zq) (by decide) rfl ?_
                  refine k_rwI (y := nI (rn (kdr S j) + 1)) z1.f7 ?_
                  refine k_iconst 112 113 C dX3_point_112 rfl (v := 1) rfl ?_
                  refine k_isub 113 114 C dX3_point_113 rfl  ?_
                  refine k_rwI (y := nI (rn (kdr S j))) (by show nI (rn (kdr S j) + 1) - nI 1 = _; rw [pk_sub (by omega)]; rfl) ?_
                  refine k_iret 114 C dX3_point_114 rfl ?_
                  have zw : ∀ v : Int32, dW (dAdd (kdr S j) x.toInt64 y.toInt64 v) := fun v _ => by
                    show va_up (rl (kdr S j)) (rn (kdr S j)) (if rn (kdr S j) = 0 then -1 else v) 0 = -1
                    by_cases z0 : rn (kdr S j) = 0
                    · rw [z0, va_up_self, if_pos rfl]
                    · rw [va_up_ne _ _ (fun zz => z0 zz.symm)]; exact hk.w j zj (by omega)
                  have ee : cPnt S (nI j) x y q = (nI (rn (kdr S j)), some (kf S, ks S, kn S, va_up (kdr S) j (dAdd (kdr S j) x.toInt64 y.toInt64 (if q = 1 then 1 else -1)))) := by
                    unfold cPnt; rw [if_neg zok, zcl, if_neg zno, if_neg (Classical.not_not.mpr zf)]
                  rw [ee]
                  have zp := hk'.p j (by omega)
                  first
                    | exact ⟨rfl, After.of g' k1 o1 (z2.wide (by omega) (by omega)) (hk'.drw zj z2 (by rw [if_neg h96]; exact z1) (zw _))⟩
                    | exact ⟨rfl, After.of g' k1 o1 (z2.wide (by omega) (by omega)) (hk'.drw zj z2 (by rw [if_pos h96]; exact z1) (zw _))⟩
              · have zf : ¬ rn (kdr S j) < 20 := fun zz => h77 (show nI (rn (kdr S j)) < nI 20 from nI_lt zz (by decide))
                refine k_ldc 80 82 C dX3_point_80 rfl kc_X3_91 ?_
                refine k_iret 82 C dX3_point_82 rfl ?_
                have ee : cPnt S (nI j) x y q = (-2000000003, none) := by
                  unfold cPnt; rw [if_neg zok, zcl, if_neg zno, if_pos zf]
                exact ⟨by rw [ee], by rw [ee]; exact After.no ⟨_, _, g⟩ Keep.rf Off.rf⟩
            · refine k_ldc 69 71 C dX3_point_69 rfl kc_X3_113 ?_
              refine k_iret 71 C dX3_point_71 rfl ?_
              have ee : cPnt S (nI j) x y q = (-2000000002, none) := by
                unfold cPnt; rw [if_neg zok, zcl, if_pos (by first | exact Or.inl h55 | exact Or.inr h66)]
              exact ⟨by rw [ee], by rw [ee]; exact After.no ⟨_, _, g⟩ Keep.rf Off.rf⟩
        · refine k_ldc 47 49 C dX3_point_47 rfl kc_X3_35 ?_
          refine k_iret 49 C dX3_point_49 rfl ?_
          first
            | (have ee : cPnt S i x y q = (-2000000001, none) := by
                 unfold cPnt; rw [if_pos (fun zz => zc zz.1)]
               exact ⟨by rw [ee], by rw [ee]; exact After.no ⟨_, _, g⟩ Keep.rf Off.rf⟩)
            | (have ee : cPnt S (nI j) x y q = (-2000000001, none) := by
                 unfold cPnt; rw [if_pos (fun zz => by first | exact h23 zz.2.1 | exact h34 zz.2.2.1 | exact h44 zz.2.2.2)]
               exact ⟨by rw [ee], by rw [ee]; exact After.no ⟨_, _, g⟩ Keep.rf Off.rf⟩)
set_option maxHeartbeats 4000000 in
set_option maxRecDepth 100000 in
theorem ct_X3_undo {E : gE} {T : gT} {l : Launch} {V : gV} {a : Nat} {S : Dk} {h : Nat} {H : Nat → Dk} {r0 : Nat} {ρ : Nat → Nat} (hA : IsAll T a) (g : AVp V a S h H r0 ρ) : CtI E T l yX3_undo (gw yX3_undo cX3_undo 3 (some .int)) { frames := 0, cells := 0, slots := 0, locals := 0 } [.ref a] V (fun (r : Int32) (V' : gV) => (h = 0 ∧ r = -2000000002 ∧ V' = V) ∨ (0 < h ∧ r = nI (h - 1) ∧ AVe V' a (H (h - 1)) (h - 1) H ∧ Keep V V' (a + 29) (a + 34) ∧ Off V V' a (a + 142))) := by
  refine ctI_of (L := [(0, .ref a)]) (by decide) rfl (Nat.le_of_ble_eq_true rfl) rfl (fun p e s m args below meth c C => ?_)
  obtain ⟨π, hk⟩ := g.dk
  have hD := hA.2 _ g.r5
  have ha := hA.a
  have zn6 := hk.le
  have zh4 := g.le
  refine k_aload_n 0 1 C dX3_undo_0 rfl 0 rfl ?_
  refine k_get 1 4 C dX3_undo_1 rfl ci_X3 2 fl_X3_20 (IsArm.o ‹_›) (by decide) rfl ?_
  refine k_rwI (g.st) ?_
  refine k_iconst 4 5 C dX3_undo_4 rfl (v := 1) rfl ?_
  refine k_isub 5 6 C dX3_undo_5 rfl  ?_
  refine k_istore_n 6 7 C [(1, _), (0, _)] dX3_undo_6 rfl (by decide) rfl ?_
  refine k_iload_n 7 8 C dX3_undo_7 rfl 0 rfl ?_
  refine k_if_lt 8 29 11 C dX3_undo_8 (by decide) rfl (fun h8 => ?_) (fun h8 => ?_)
  · have z0 : h = 0 := by
      rcases Nat.eq_zero_or_pos h with zz | zz
      · exact zz
      · exact absurd h8 (by rw [show nI h - 1 = nI (h - 1) from pk_sub (a := h) (b := 1) (by omega)]; exact nI_pos (by omega))
    refine k_ldc 29 31 C dX3_undo_29 rfl kc_X3_113 ?_
    refine k_iret 31 C dX3_undo_31 rfl ?_
    exact Or.inl ⟨z0, rfl, rfl⟩
  · have z0 : 0 < h := by
      rcases Nat.eq_zero_or_pos h with zz | zz
      · subst zz; exact absurd (show (nI 0 - 1 : Int32) < 0 by decide) h8
      · exact zz
    have zs : nI h - 1 = nI (h - 1) := pk_sub (a := h) (b := 1) (by omega)
    rw [zs]
    rw [zs] at h8
    refine k_iload_n 11 12 C dX3_undo_11 rfl 0 rfl ?_
    refine k_aload_n 12 13 C dX3_undo_12 rfl 1 rfl ?_
    refine k_getF 13 16 C dX3_undo_13 rfl ci_X3 1 fl_X3_16 (IsArm.o ‹_›) (by decide) (IsArm.f1 ‹_›) rfl ?_
    refine k_alen 16 17 C dX3_undo_16 rfl (IsArm.a1 ‹_›) (by decide) (v := 4) rfl ?_
    refine k_icmp_ge 17 29 20 C dX3_undo_17 (by decide) rfl (fun h17 => ?_) (fun h17 => ?_)
    · exact absurd (show nI 4 ≤ nI (h - 1) from h17) (by rw [n6 (by omega) (by omega)]; omega)
    · refine k_aload_n 20 21 C dX3_undo_20 rfl 1 rfl ?_
      refine k_getF 21 24 C dX3_undo_21 rfl ci_X3 1 fl_X3_16 (IsArm.o ‹_›) (by decide) (IsArm.f1 ‹_›) rfl ?_
      refine k_iload_n 24 25 C dX3_undo_24 rfl 0 rfl ?_
      refine k_aald3 25 26 C dX3_undo_25 rfl (IsArm.a1 ‹_›) (vp_in_nI (show h - 1 < 4 by omega) (by decide)) ?_
      rw [nI_clamp (show h - 1 < 2 ^ 31 by omega)]
      refine k_rwQ (g.row (h - 1) (by omega)) ?_
      refine k_ifnonnullO 26 32 C dX3_undo_26 (by decide) ?_
      refine k_aload_n 32 33 C dX3_undo_32 rfl 1 rfl ?_
      refine k_getF 33 36 C dX3_undo_33 rfl ci_X3 1 fl_X3_16 (IsArm.o ‹_›) (by decide) (IsArm.f1 ‹_›) rfl ?_
      refine k_iload_n 36 37 C dX3_undo_36 rfl 0 rfl ?_
      refine k_aald3 37 38 C dX3_undo_37 rfl (IsArm.a1 ‹_›) (vp_in_nI (show h - 1 < 4 by omega) (by decide)) ?_
      rw [nI_clamp (show h - 1 < 2 ^ 31 by omega)]
      refine k_rwQ (g.row (h - 1) (by omega)) ?_
      refine k_astore_n 38 39 C [(2, _), (1, _), (0, _)] dX3_undo_38 rfl (by decide) rfl ?_
      refine k_aload_n 39 40 C dX3_undo_39 rfl 2 rfl ?_
      refine k_getF 40 43 C dX3_undo_40 rfl ci_X3 1 fl_X3_16 (IsArm.o ‹_›) (by decide) (IsArm.f1 ‹_›) rfl ?_
      refine k_iload_n 43 44 C dX3_undo_43 rfl 1 rfl ?_
      refine k_aload_n 44 45 C dX3_undo_44 rfl 2 rfl ?_
      refine k_get 45 48 C dX3_undo_45 rfl ci_X3 0 fl_X3_10 (IsArm.o ‹_›) (by decide) rfl ?_
      refine k_rwQ (g.now) ?_
      refine k_aast3 48 49 C dX3_undo_48 rfl (IsArm.a1 ha) (IsDsk.o hD) (vp_in_nI (show h - 1 < 4 by omega) (by decide)) ?_
      rw [nI_clamp (show h - 1 < 2 ^ 31 by omega)]
      refine k_aload_n 49 50 C dX3_undo_49 rfl 2 rfl ?_
      refine k_aload_n 50 51 C dX3_undo_50 rfl 0 rfl ?_
      refine k_put 51 54 C dX3_undo_51 rfl ci_X3 0 fl_X3_10 (IsArm.o ha) (by decide) rfl rfl rfl wR_off (ps_3_0 _ _ _ (some _)) ?_
      refine k_aload_n 54 55 C dX3_undo_54 rfl 2 rfl ?_
      refine k_iload_n 55 56 C dX3_undo_55 rfl 1 rfl ?_
      refine k_put 56 59 C dX3_undo_56 rfl ci_X3 2 fl_X3_20 (IsArm.o ha) (by decide) rfl rfl rfl wI_off (ps_3_2 _ _ _ _) ?_
      refine k_aload_n 59 60 C dX3_undo_59 rfl 2 rfl ?_
      refine k_get 60 63 C dX3_undo_60 rfl ci_X3 2 fl_X3_20 (IsArm.o ‹_›) (by decide) rfl ?_
      refine k_rwI (y := nI (h - 1)) (by simp [wI, wR, upd]) ?_
      refine k_iret 63 C dX3_undo_63 rfl ?_
      refine Or.inr ⟨z0, rfl, ⟨ρ (h - 1), va_up ρ (h - 1) r0, ?_⟩, ?_, ?_⟩
      · have zp := g.p5 (h - 1) (by omega)
        have e1 : ∀ b, b ≠ a → (wI (wR (wR V (a + 28) (h - 1) (some (dAd a r0))) a 0 (some (dAd a (ρ (h - 1))))) a 2 (nI (h - 1))).1 b = V.1 b := fun b hb => (wI_off b hb).1
        have e3 : ∀ b, b ≠ a → b ≠ a + 28 → (wI (wR (wR V (a + 28) (h - 1) (some (dAd a r0))) a 0 (some (dAd a (ρ (h - 1))))) a 2 (nI (h - 1))).2.2 b = V.2.2 b := fun b hb hb2 => ((wR_off b hb).2.2).trans (wR_off b hb2).2.2
        have hkp : ∀ r, r < 5 → Keep V (wI (wR (wR V (a + 28) (h - 1) (some (dAd a r0))) a 0 (some (dAd a (ρ (h - 1))))) a 2 (nI (h - 1))) (dAd a r) (dAd a r + 27) := fun r hr b hb1 hb2 => by
          have := dAd_in (a := a) hr
          exact ⟨e1 b (by omega), rfl, e3 b (by omega) (by omega)⟩
        refine ⟨by simp [wI, wR, va_up], fun k hk4 => ?_, zp.1, fun k hk4 => ?_, fun x y hx hy hxy => ?_, by simp [wI, upd], by omega, ?_, fun k hk4 => ?_, fun k hk4 => ?_⟩
        · show (if a + 28 = a then _ else if a + 28 = a + 28 then va_up (V.2.2 (a + 28)) (h - 1) (some (dAd a r0)) else V.2.2 (a + 28)) k = _
          rw [if_neg (by omega), if_pos rfl]
          by_cases c1 : k = h - 1
          · subst c1; rw [va_up_self, va_up_self]
          · rw [va_up_ne _ _ c1, va_up_ne _ _ c1]; exact g.row k hk4
        · by_cases c1 : k = h - 1
          · subst c1; rw [va_up_self]; exact ⟨g.r5, fun zz => zp.2 zz.symm⟩
          · rw [va_up_ne _ _ c1]; exact ⟨(g.p5 k hk4).1, fun zz => c1 (g.inj k (h - 1) hk4 (by omega) zz)⟩
        · by_cases c1 : x = h - 1 <;> by_cases c2 : y = h - 1
          · omega
          · subst c1; rw [va_up_self, va_up_ne _ _ c2] at hxy; exact absurd hxy.symm (g.p5 y hy).2
          · subst c2; rw [va_up_self, va_up_ne _ _ c1] at hxy; exact absurd hxy (g.p5 x hx).2
          · rw [va_up_ne _ _ c1, va_up_ne _ _ c2] at hxy; exact g.inj x y hx hy hxy
        · obtain ⟨π2, hq⟩ := g.ds (h - 1) (by omega)
          exact ⟨π2, hq.same (hkp _ zp.1)⟩
        · have c1 : k ≠ h - 1 := by omega
          rw [va_up_ne _ _ c1]
          obtain ⟨π2, hq⟩ := g.ds k (by omega)
          exact ⟨π2, hq.same (hkp _ (g.p5 k (by omega)).1)⟩
        · by_cases c1 : k = h - 1
          · subst c1; rw [va_up_self]; exact ⟨_, hk.rows.same (hkp _ g.r5)⟩
          · rw [va_up_ne _ _ c1]
            obtain ⟨π2, hq⟩ := g.dr k hk4
            exact ⟨π2, hq.same (hkp _ (g.p5 k hk4).1)⟩
      · intro b hb1 hb2
        exact ⟨(wI_off b (by omega)).1, rfl, ((wR_off b (by omega)).2.2).trans (wR_off b (by omega)).2.2⟩
      · exact ((Off.rf.wR (by omega) (by omega)).wR (by omega) (by omega)).wI (by omega) (by omega)

