theorem AVp.txt {V V' : gV} {a : Nat} {S : Dk} {h : Nat} {H : Nat → Dk} {r0 : Nat} {ρ : Nat → Nat} (g : AVp V a S h H r0 ρ) (ho : Off V V' (a + 29) (a + 34)) : AVp V' a S h H r0 ρ := by
  have ea := ho a (by omega)
  have e28 := ho (a + 28) (by omega)
  have hkp : ∀ r, r < 5 → Keep V V' (dAd a r) (dAd a r + 27) := fun r hr => ho.keep (by have := dAd_in (a := a) hr; omega)
  refine ⟨by rw [ea.2.2]; exact g.now, fun k hk4 => by rw [e28.2.2]; exact g.row k hk4, g.r5, g.p5, g.inj, by rw [ea.1]; exact g.st, g.le, ?_, fun k hk4 => ?_, fun k hk4 => ?_⟩
  · obtain ⟨π, hq⟩ := g.dk
    exact ⟨π, hq.same (hkp _ g.r5)⟩
  · obtain ⟨π, hq⟩ := g.ds k hk4
    exact ⟨π, hq.same (hkp _ (g.p5 k (by have := g.le; omega)).1)⟩
  · obtain ⟨π, hq⟩ := g.dr k hk4
    exact ⟨π, hq.same (hkp _ (g.p5 k hk4).1)⟩
theorem TC.same {V V' : gV} {t n : Nat} {cs : Nat → Int32} (ht : TC V t cs n) (h : Keep V V' t (t + 5)) : TC V' t cs n := by
  have e0 := (h t (by omega) (by omega)).1
  have e1 := (h (t + 1) (by omega) (by omega)).1
  unfold TC; rw [e0, e1]; exact ht
theorem chr_id {x : Int32} (h : okR x 32 126) : (x.toUInt32 % 65536).toInt32 = x ∧ 32 ≤ x.toInt ∧ x.toInt ≤ 126 := by
  have h1 := h.1
  have h2 := h.2
  rw [Int32.lt_iff_toInt_lt] at h1 h2
  have e1 : (32 : Int32).toInt = 32 := by decide
  have e2 : (126 : Int32).toInt = 126 := by decide
  rw [e1] at h1; rw [e2] at h2
  obtain ⟨k, hk, rfl⟩ : ∃ k, k < 127 ∧ x = nI k := ⟨x.toInt.toNat, by omega, by
    apply Int32.toInt_inj.mp
    rw [nI_toInt (by omega)]; omega⟩
  refine ⟨?_, by omega, by omega⟩
  rw [pk_char, pk_tn (by omega), Nat.mod_eq_of_lt (by omega)]
theorem apD_w (P : Pt) : ∀ i, dW (apD P (dBegin (-1) 1 1) i)
  | 0 => fun h => absurd h (Nat.not_lt_zero _)
  | i + 1 => fun _ => by
    show va_up (rl (apD P (dBegin (-1) 1 1) i)) (rn (apD P (dBegin (-1) 1 1) i)) (if rn (apD P (dBegin (-1) 1 1) i) = 0 then -1 else _) 0 = -1
    by_cases z0 : rn (apD P (dBegin (-1) 1 1) i) = 0
    · rw [z0, va_up_self, if_pos rfl]
    · rw [va_up_ne _ _ (fun zz => z0 zz.symm)]; exact apD_w P i (by omega)
def AfterT (V V' : gV) (a : Nat) (S : Dk) (h : Nat) (H : Nat → Dk) (x : Option Dk) (cs : Nat → Int32) (n : Nat) : Prop := (match x with
  | none => AVe V' a S h H
  | some S' => AVe V' a S' (remN h) (remH S h H)) ∧ TC V' (a + 29) cs n ∧ Off V V' a (a + 142)
def cTyp (n : Nat) (ch : Int32) : Int32 := if okR ch 32 126 then (if n < 100 then nI (n + 1) else -2000000003) else -2000000001
def cFlt (P : Pt) (w : Int32) : Int32 := if ¬ okR w 0 1 then -2000000001 else if prs P = 0 then -2000000004 else if w = 0 then pfa P else prs P
def cRed (S : Dk) (P : Pt) : Int32 × Option Dk := if ¬ prs P = 0 then (-2000000002, none) else if ¬ kn S < 6 then (-2000000003, none) else (nI (kn S), some (kf S, ks S, kn S + 1, va_up (kdr S) (kn S) (apD P (dBegin (-1) 1 1) (pm P))))
abbrev PPs (V : gV) (t : Nat) (cs : Nat → Int32) (n : Nat) : Pt := pParse cs n (V.1 t 3) (V.1 (t + 2)) (V.1 (t + 3)) (V.1 (t + 4))
set_option maxHeartbeats 4000000 in
set_option maxRecDepth 100000 in
theorem ct_X3_type {E : gE} {T : gT} {l : Launch} {V : gV} {ch : Int32} {a : Nat} {S : Dk} {h : Nat} {H : Nat → Dk} {r0 : Nat} {ρ : Nat → Nat} (hA : IsAll T a) (g : AVp V a S h H r0 ρ) {n : Nat} {cs : Nat → Int32} (ht : TC V (a + 29) cs n) : CtI E T l yX3_type (gw yX3_type cX3_type 2 (some .int)) { frames := 1, cells := 0, slots := 0, locals := 22 } [.ref a, .int ch] V (fun (r : Int32) (V' : gV) => r = cTyp n ch ∧ AfterT V V' a S h H none (if okR ch 32 126 ∧ n < 100 then va_up cs n ch else cs) (if okR ch 32 126 ∧ n < 100 then n + 1 else n)) := by
  refine ctI_of (L := [(0, .ref a), (1, .int ch)]) (by decide) rfl (Nat.le_of_ble_eq_true rfl) rfl (fun p e s m args below meth c C => ?_)
  obtain ⟨π, hk⟩ := g.dk
  have hD := hA.2 _ g.r5
  have ha := hA.a
  have zn6 := hk.le
  have hx := ha.t
  have zt5 : a + 29 + 5 = a + 34 := by omega
  refine k_iload_n 0 1 C dX3_type_0 rfl 1 rfl ?_
  refine k_bipush 1 3 C dX3_type_1 rfl (v := 32) rfl ?_
  refine k_bipush 3 5 C dX3_type_3 rfl (v := 126) rfl ?_
  refine k_callSI 5 8 C [_, _, _] [] dX3_type_5 rfl ct_X3_isWithin mi_X3_isWithin ml_X3_31 st_X3_isWithin rfl rfl ⟨Nat.le_of_ble_eq_true rfl, Nat.le_of_ble_eq_true rfl⟩ (Nat.le_of_ble_eq_true rfl) (Nat.zero_le _) (Nat.zero_le _) (fun r5 V5 p5 => ?_)
  obtain ⟨rfl, rfl⟩ := And.intro p5.1.symm p5.2
  refine k_ifb_ne 8 14 11 C dX3_type_8 (by decide) rfl (fun h8 => ?_) (fun h8 => ?_)
  · refine k_aload_n 14 15 C dX3_type_14 rfl 0 rfl ?_
    refine k_getF 15 18 C dX3_type_15 rfl ci_X3 3 fl_X3_27 (IsArm.o ‹_›) (by decide) (IsArm.f3 ‹_›) rfl ?_
    refine k_iload_n 18 19 C dX3_type_18 rfl 1 rfl ?_
    refine k_i2c 19 20 C dX3_type_19 rfl  ?_
    refine k_rwI (chr_id h8).1 ?_
    refine k_callVI 20 23 C [_] [] dX3_type_20 rfl (ct_X2_append hx ht (chr_id h8).2) mi_X2_append ml_X3_212 im_X2_append se_X2_append ci_X2 (IsTxt.o hx) rfl rfl ⟨Nat.le_of_ble_eq_true rfl, Nat.le_of_ble_eq_true rfl⟩ (Nat.le_of_ble_eq_true rfl) (Nat.zero_le _) (Nat.zero_le _) (fun r20 V20 p20 => ?_)
    obtain ⟨rfl, z1, z2, z3⟩ := p20
    have zo := z3.wide (lo' := a) (hi' := a + 142) (by omega) (by omega)
    have g2 := g.txt z3
    refine k_ifb_eq 23 36 26 C dX3_type_23 (by decide) rfl (fun h23 => ?_) (fun h23 => ?_)
    · refine k_ldc 36 38 C dX3_type_36 rfl kc_X3_91 ?_
      refine k_iret 38 C dX3_type_38 rfl ?_
      first
        | exact ⟨by unfold cTyp; rw [if_pos h8, if_pos h23], ⟨_, _, g2⟩, by rw [if_pos ⟨h8, h23⟩, if_pos ⟨h8, h23⟩]; exact z1 h23, zo⟩
        | exact ⟨by unfold cTyp; rw [if_pos h8, if_neg h23], ⟨_, _, g2⟩, by rw [if_neg (fun zz => h23 zz.2), if_neg (fun zz => h23 zz.2)]; exact z2 h23, zo⟩
    · refine k_aload_n 26 27 C dX3_type_26 rfl 0 rfl ?_
      refine k_getF 27 30 C dX3_type_27 rfl ci_X3 3 fl_X3_27 (IsArm.o ‹_›) (by decide) (IsArm.f3 ‹_›) rfl ?_
      refine k_getN 30 33 C dX3_type_30 rfl ci_X2 1 fn_X3_88 (IsTxt.o hx) (by decide) rfl ?_
      refine k_rwI (y := nI (n + 1)) (z1 h23).1 ?_
      refine k_goto 33 38 C dX3_type_33 (by decide) ?_
      refine k_iret 38 C dX3_type_38 rfl ?_
      first
        | exact ⟨by unfold cTyp; rw [if_pos h8, if_pos h23], ⟨_, _, g2⟩, by rw [if_pos ⟨h8, h23⟩, if_pos ⟨h8, h23⟩]; exact z1 h23, zo⟩
        | exact ⟨by unfold cTyp; rw [if_pos h8, if_neg h23], ⟨_, _, g2⟩, by rw [if_neg (fun zz => h23 zz.2), if_neg (fun zz => h23 zz.2)]; exact z2 h23, zo⟩
  · refine k_ldc 11 13 C dX3_type_11 rfl kc_X3_35 ?_
    refine k_iret 13 C dX3_type_13 rfl ?_
    exact ⟨by unfold cTyp; rw [if_neg h8], ⟨_, _, g⟩, by rw [if_neg (fun zz => h8 zz.1), if_neg (fun zz => h8 zz.1)]; exact ht, Off.rf⟩
set_option maxHeartbeats 4000000 in
set_option maxRecDepth 100000 in
theorem ct_X3_fault {E : gE} {T : gT} {l : Launch} {V : gV} {w : Int32} {a : Nat} {S : Dk} {h : Nat} {H : Nat → Dk} {r0 : Nat} {ρ : Nat → Nat} (hA : IsAll T a) (g : AVp V a S h H r0 ρ) {n : Nat} {cs : Nat → Int32} (ht : TC V (a + 29) cs n) {PP : Pt} (hPP : PP = PPs V (a + 29) cs n) : CtI E T l yX3_fault (gw yX3_fault cX3_fault 2 (some .int)) { frames := 5, cells := 0, slots := 0, locals := 111 } [.ref a, .int w] V (fun (r : Int32) (V' : gV) => r = cFlt PP w ∧ AfterT V V' a S h H none cs n) := by
  refine ctI_of (L := [(0, .ref a), (1, .int w)]) (by decide) rfl (Nat.le_of_ble_eq_true rfl) rfl (fun p e s m args below meth c C => ?_)
  obtain ⟨π, hk⟩ := g.dk
  have hD := hA.2 _ g.r5
  have ha := hA.a
  have zn6 := hk.le
  have hx := ha.t
  have zt5 : a + 29 + 5 = a + 34 := by omega
  refine k_iload_n 0 1 C dX3_fault_0 rfl 1 rfl ?_
  refine k_iconst 1 2 C dX3_fault_1 rfl (v := 0) rfl ?_
  refine k_iconst 2 3 C dX3_fault_2 rfl (v := 1) rfl ?_
  refine k_callSI 3 6 C [_, _, _] [] dX3_fault_3 rfl ct_X3_isWithin mi_X3_isWithin ml_X3_31 st_X3_isWithin rfl rfl ⟨Nat.le_of_ble_eq_true rfl, Nat.le_of_ble_eq_true rfl⟩ (Nat.le_of_ble_eq_true rfl) (Nat.zero_le _) (Nat.zero_le _) (fun r3 V3 p3 => ?_)
  obtain ⟨rfl, rfl⟩ := And.intro p3.1.symm p3.2
  refine k_ifb_ne 6 12 9 C dX3_fault_6 (by decide) rfl (fun h6 => ?_) (fun h6 => ?_)
  · refine k_aload_n 12 13 C dX3_fault_12 rfl 0 rfl ?_
    refine k_getF 13 16 C dX3_fault_13 rfl ci_X3 3 fl_X3_27 (IsArm.o ‹_›) (by decide) (IsArm.f3 ‹_›) rfl ?_
    refine k_callVI 16 19 C [] [] dX3_fault_16 rfl (ct_X2_parse hx ht hPP) mi_X2_parse ml_X3_216 im_X2_parse se_X2_parse ci_X2 (IsTxt.o hx) rfl rfl ⟨Nat.le_of_ble_eq_true rfl, Nat.le_of_ble_eq_true rfl⟩ (Nat.le_of_ble_eq_true rfl) (Nat.zero_le _) (Nat.zero_le _) (fun r16 V16 p16 => ?_)
    obtain ⟨rfl, z1, z2⟩ := p16
    have g2 := g.txt z2
    have zA : AfterT V V16 a S h H none cs n := ⟨⟨_, _, g2⟩, z1.1, z2.wide (by omega) (by omega)⟩
    have h6n := Classical.not_not.mpr h6
    refine k_if_ne 19 25 22 C dX3_fault_19 (by decide) rfl (fun h19 => ?_) (fun h19 => ?_)
    · refine k_iload_n 25 26 C dX3_fault_25 rfl 1 rfl ?_
      refine k_if_ne 26 39 29 C dX3_fault_26 (by decide) rfl (fun h26 => ?_) (fun h26 => ?_)
      · refine k_aload_n 39 40 C dX3_fault_39 rfl 0 rfl ?_
        refine k_getF 40 43 C dX3_fault_40 rfl ci_X3 3 fl_X3_27 (IsArm.o ‹_›) (by decide) (IsArm.f3 ‹_›) rfl ?_
        refine k_getN 43 46 C dX3_fault_43 rfl ci_X2 4 fn_X3_222 (IsTxt.o hx) (by decide) rfl ?_
        refine k_rwI (z1.rs) ?_
        refine k_iret 46 C dX3_fault_46 rfl ?_
        first
          | exact ⟨by unfold cFlt; rw [if_neg h6n, if_neg h19, if_pos h26], zA⟩
          | exact ⟨by unfold cFlt; rw [if_neg h6n, if_neg h19, if_neg h26], zA⟩
      · refine k_aload_n 29 30 C dX3_fault_29 rfl 0 rfl ?_
        refine k_getF 30 33 C dX3_fault_30 rfl ci_X3 3 fl_X3_27 (IsArm.o ‹_›) (by decide) (IsArm.f3 ‹_›) rfl ?_
        refine k_getN 33 36 C dX3_fault_33 rfl ci_X2 3 fn_X3_219 (IsTxt.o hx) (by decide) rfl ?_
        refine k_rwI (z1.fa) ?_
        refine k_goto 36 46 C dX3_fault_36 (by decide) ?_
        refine k_iret 46 C dX3_fault_46 rfl ?_
        first
          | exact ⟨by unfold cFlt; rw [if_neg h6n, if_neg h19, if_pos h26], zA⟩
          | exact ⟨by unfold cFlt; rw [if_neg h6n, if_neg h19, if_neg h26], zA⟩
    · refine k_ldc 22 24 C dX3_fault_22 rfl kc_X3_136 ?_
      refine k_iret 24 C dX3_fault_24 rfl ?_
      exact ⟨by unfold cFlt; rw [if_neg h6n, if_pos h19], zA⟩
  · refine k_ldc 9 11 C dX3_fault_9 rfl kc_X3_35 ?_
    refine k_iret 11 C dX3_fault_11 rfl ?_
    exact ⟨by unfold cFlt; rw [if_pos h6], ⟨_, _, g⟩, ht, Off.rf⟩
set_option maxHeartbeats 4000000 in
set_option maxRecDepth 100000 in
theorem ct_X3_read {E : gE} {T : gT} {l : Launch} {V : gV} {a : Nat} {S : Dk} {h : Nat} {H : Nat → Dk} {r0 : Nat} {ρ : Nat → Nat} (hA : IsAll T a) (g : AVp V a S h H r0 ρ) {n : Nat} {cs : Nat → Int32} (ht : TC V (a + 29) cs n) {PP : Pt} (hPP : PP = PPs V (a + 29) cs n) : CtI E T l yX3_read (gw yX3_read cX3_read 3 (some .int)) { frames := 5, cells := 0, slots := 0, locals := 111 } [.ref a] V (fun (r : Int32) (V' : gV) => r = (cRed S PP).1 ∧ AfterT V V' a S h H (cRed S PP).2 cs n) := by
  refine ctI_of (L := [(0, .ref a)]) (by decide) rfl (Nat.le_of_ble_eq_true rfl) rfl (fun p e s m args below meth c C => ?_)
  obtain ⟨π, hk⟩ := g.dk
  have hD := hA.2 _ g.r5
  have ha := hA.a
  have zn6 := hk.le
  have hx := ha.t
  have zt5 : a + 29 + 5 = a + 34 := by omega
  refine k_aload_n 0 1 C dX3_read_0 rfl 0 rfl ?_
  refine k_getF 1 4 C dX3_read_1 rfl ci_X3 3 fl_X3_27 (IsArm.o ‹_›) (by decide) (IsArm.f3 ‹_›) rfl ?_
  refine k_callVI 4 7 C [] [] dX3_read_4 rfl (ct_X2_parse hx ht hPP) mi_X2_parse ml_X3_216 im_X2_parse se_X2_parse ci_X2 (IsTxt.o hx) rfl rfl ⟨Nat.le_of_ble_eq_true rfl, Nat.le_of_ble_eq_true rfl⟩ (Nat.le_of_ble_eq_true rfl) (Nat.zero_le _) (Nat.zero_le _) (fun r4 V4 p4 => ?_)
  obtain ⟨rfl, z1, z2⟩ := p4
  have g2 := g.txt z2
  have hk2 := hk.same (z2.keep (by have := dAd_in (a := a) g.r5; omega))
  have zo := z2.wide (lo' := a) (hi' := a + 142) (by omega) (by omega)
  refine k_if_eq 7 13 10 C dX3_read_7 (by decide) rfl (fun h7 => ?_) (fun h7 => ?_)
  · refine k_aload_n 13 14 C dX3_read_13 rfl 0 rfl ?_
    refine k_get 14 17 C dX3_read_14 rfl ci_X3 0 fl_X3_10 (IsArm.o ‹_›) (by decide) rfl ?_
    refine k_rwQ (g2.now) ?_
    refine k_callVQ 17 20 C [] [] dX3_read_17 rfl (ct_X0_spare hD hk2) mi_X0_spare ml_X3_92 im_X0_spare se_X0_spare ci_X0 (IsDsk.o ‹_›) rfl rfl ⟨Nat.le_of_ble_eq_true rfl, Nat.le_of_ble_eq_true rfl⟩ (Nat.le_of_ble_eq_true rfl) (Nat.zero_le _) (Nat.zero_le _) (fun r17 V17 p17 => ?_)
    obtain ⟨rfl, rfl⟩ := And.intro p17.1.symm p17.2
    rcases Nat.lt_or_ge (kn S) 6 with zl | zl
    · refine k_rwQ (if_pos zl) ?_
      refine k_astore_n 20 21 C [(1, _), (0, _)] dX3_read_20 rfl (by decide) rfl ?_
      refine k_aload_n 21 22 C dX3_read_21 rfl 0 rfl ?_
      refine k_ifnonnullO 22 28 C dX3_read_22 (by decide) ?_
      refine k_aload_n 28 29 C dX3_read_28 rfl 1 rfl ?_
      refine k_callVV 29 32 C [] [] dX3_read_29 rfl (ct_X3_remember hA g2) mi_X3_remember ml_X3_42 im_X3_remember se_X3_remember ci_X3 (IsArm.o ‹_›) rfl rfl ⟨Nat.le_of_ble_eq_true rfl, Nat.le_of_ble_eq_true rfl⟩ (Nat.le_of_ble_eq_true rfl) (Nat.zero_le _) (Nat.zero_le _) (fun V29 p29 => ?_)
      obtain ⟨ρ', g', k0, k1, o1⟩ := p29
      have hk' := hk2.same k0
      have ht' := z1.same k1
      refine k_aload_n 32 33 C dX3_read_32 rfl 1 rfl ?_
      refine k_get 33 36 C dX3_read_33 rfl ci_X3 0 fl_X3_10 (IsArm.o ‹_›) (by decide) rfl ?_
      refine k_rwQ (g'.now) ?_
      refine k_callVI 36 39 C [] [] dX3_read_36 rfl (ct_X0_beginOriginal hD hk' zl) mi_X0_beginOriginal ml_X3_96 im_X0_beginOriginal se_X0_beginOriginal ci_X0 (IsDsk.o ‹_›) rfl rfl ⟨Nat.le_of_ble_eq_true rfl, Nat.le_of_ble_eq_true rfl⟩ (Nat.le_of_ble_eq_true rfl) (Nat.zero_le _) (Nat.zero_le _) (fun r36 V36 p36 => ?_)
      obtain ⟨rfl, z6, z7⟩ := p36
      have zp := hk'.p _ zl
      have zin := dAd_in (a := a) g.r5
      have ht2 := ht'.same (z7.keep (by omega))
      have zd := z6.d (kn S) (by show kn S < kn S + 1; omega)
      rw [show kdr (kf S, ks S, kn S + 1, va_up (kdr S) (kn S) (dBegin (-1) 1 1)) (kn S) = dBegin (-1) 1 1 from va_up_self _ _ _] at zd
      refine k_istore_n 39 40 C [(2, _), (1, _), (0, _)] dX3_read_39 rfl (by decide) rfl ?_
      refine k_aload_n 40 41 C dX3_read_40 rfl 2 rfl ?_
      refine k_getF 41 44 C dX3_read_41 rfl ci_X3 3 fl_X3_27 (IsArm.o ‹_›) (by decide) (IsArm.f3 ‹_›) rfl ?_
      refine k_aload_n 44 45 C dX3_read_44 rfl 1 rfl ?_
      refine k_callVV 45 48 C [_] [] dX3_read_45 rfl (ct_X2_addPointsTo hx ht2 (hD.d _ zp) zd rfl (by omega)) mi_X2_addPointsTo ml_X3_225 im_X2_addPointsTo se_X2_addPointsTo ci_X2 (IsTxt.o hx) rfl rfl ⟨Nat.le_of_ble_eq_true rfl, Nat.le_of_ble_eq_true rfl⟩ (Nat.le_of_ble_eq_true rfl) (Nat.zero_le _) (Nat.zero_le _) (fun V45 p45 => ?_)
      obtain ⟨z8, z9⟩ := p45
      refine k_iload_n 48 49 C dX3_read_48 rfl 0 rfl ?_
      refine k_iret 49 C dX3_read_49 rfl ?_
      have ee : cRed S PP = (nI (kn S), some (kf S, ks S, kn S + 1, va_up (kdr S) (kn S) (apD PP (dBegin (-1) 1 1) (pm PP)))) := by
        unfold cRed; rw [if_neg (Classical.not_not.mpr h7), if_neg (Classical.not_not.mpr zl)]
      have zz := z6.drw (i := kn S) (by show kn S < kn S + 1; omega) z9 z8 (apD_w _ _)
      have zf : va_up (va_up (kdr S) (kn S) (dBegin (-1) 1 1)) (kn S) (apD PP (dBegin (-1) 1 1) (pm PP)) = va_up (kdr S) (kn S) (apD PP (dBegin (-1) 1 1) (pm PP)) := bx_uu _ _ _ _
      rw [ee]
      refine ⟨rfl, ⟨_, _, g'.upd (z7.trans (z9.wide (by omega) (by omega))) (by rw [← zf]; exact zz)⟩, (ht2.same (z9.keep (by omega))).1, zo.trans (o1.trans ((z7.wide (by omega) (by omega)).trans (z9.wide (by omega) (by omega))))⟩
    · refine k_rwQ (if_neg (Nat.not_lt.mpr zl)) ?_
      refine k_astore_nq 20 21 C [(1, _), (0, _)] dX3_read_20 rfl (by decide) rfl ?_
      refine k_aload_nq 21 22 C dX3_read_21 rfl 0 rfl ?_
      refine k_ifnonnullN 22 25 C dX3_read_22 rfl ?_
      refine k_ldc 25 27 C dX3_read_25 rfl kc_X3_91 ?_
      refine k_iret 27 C dX3_read_27 rfl ?_
      have ee : cRed S PP = (-2000000003, none) := by
        unfold cRed; rw [if_neg (Classical.not_not.mpr h7), if_pos (Nat.not_lt.mpr zl)]
      exact ⟨by rw [ee], by rw [ee]; exact ⟨⟨_, _, g2⟩, z1.1, zo⟩⟩
  · refine k_ldc 10 12 C dX3_read_10 rfl kc_X3_113 ?_
    refine k_iret 12 C dX3_read_12 rfl ?_
    have ee : cRed S PP = (-2000000002, none) := by
      unfold cRed; rw [if_pos h7]
    exact ⟨by rw [ee], by rw [ee]; exact ⟨⟨_, _, g2⟩, z1.1, zo⟩⟩
def cRat (S : Dk) (i q : Int32) : Int32 := if inD S i ∧ okR q 0 1 then (lowL (rsc (kdr S i.toNatClampNeg)) (rpt (kdr S i.toNatClampNeg)) q).toInt32 else -2000000001
def cPI (d : Dr) (x : Int32) (w : Int32) : Int64 := if w = 0 then lowL (vX d x) (rpt d) 0 else if w = 1 then lowL (vX d x) (rpt d) 1 else if w = 2 then lowL (vY d x) (rpt d) 0 else if w = 3 then lowL (vY d x) (rpt d) 1 else if w = 4 then (if ¬ vL d x = -1 then 1 else 0) else if w = 5 then (vW d x).toInt64 else if w = 6 then (if 0 < vW d x then (vLen d x).toInt64 else 0) else -2000000001
abbrev inP (d : Dr) (x : Int32) : Prop := ¬ x < 0 ∧ ¬ nI (rn d) ≤ x
def cPnI (S : Dk) (i x w : Int32) : Int64 := if inD S i ∧ inP (kdr S i.toNatClampNeg) x then cPI (kdr S i.toNatClampNeg) x w else -2000000001
theorem sw_no {x z : Int32} {n : Int} (h : x.toInt < 0 ∨ n < x.toInt) (h0 : 0 ≤ z.toInt) (h1 : z.toInt ≤ n) : ¬ x = z := fun e => by rw [e] at h; omega
def cCnt (S : Dk) (h n : Nat) (w : Int32) : Int32 := if w = 0 then nI (kn S) else if w = 1 then kf S 0 else if w = 2 then kf S 1 else if w = 3 then kf S 2 else if w = 4 then kf S 3 else if w = 5 then ks S 0 else if w = 6 then ks S 1 else if w = 7 then ks S 2 else if w = 8 then ks S 3 else if w = 9 then ks S 4 else if w = 10 then kf S 5 else if w = 11 then (if ¬ sWorn S ≤ 9 then 1 else 0) else if w = 12 then kf S 6 else if w = 13 then kf S 7 else if w = 14 then kf S 8 else if w = 15 then kf S 9 else if w = 16 then nI h else if w = 17 then nI n else -2000000001
def alkF (d f : Dr) : Nat → Nat
  | 0 => 0
  | j + 1 => alkF d f j + (if vX d (nI j) * rpt f = vX f (nI j) * rpt d ∧ vY d (nI j) * rpt f = vY f (nI j) * rpt d then 1 else 0)
def cAlk (S : Dk) (i j : Int32) : Int32 := if inD S i ∧ inD S j then nI (alkF (kdr S i.toNatClampNeg) (kdr S j.toNatClampNeg) (min (rn (kdr S i.toNatClampNeg)) (rn (kdr S j.toNatClampNeg)))) else -2000000001
def afN (d f : Dr) : Int64 := rsc d * rpt f
def afD (d f : Dr) : Int64 := rpt d * rsc f
def cArF (S : Dk) (i j : Int32) : Int32 := if inD S i ∧ inD S j then (if 20 < lowL (afN (kdr S i.toNatClampNeg) (kdr S j.toNatClampNeg)) (afD (kdr S i.toNatClampNeg) (kdr S j.toNatClampNeg)) 0 ∨ 20 < lowL (afN (kdr S i.toNatClampNeg) (kdr S j.toNatClampNeg)) (afD (kdr S i.toNatClampNeg) (kdr S j.toNatClampNeg)) 1 then -2000000004 else (100 * lowL (afN (kdr S i.toNatClampNeg) (kdr S j.toNatClampNeg)) (afD (kdr S i.toNatClampNeg) (kdr S j.toNatClampNeg)) 0 + lowL (afN (kdr S i.toNatClampNeg) (kdr S j.toNatClampNeg)) (afD (kdr S i.toNatClampNeg) (kdr S j.toNatClampNeg)) 1).toInt32) else -2000000001
set_option maxHeartbeats 4000000 in
set_option maxRecDepth 100000 in
theorem ct_X3_count {E : gE} {T : gT} {l : Launch} {V : gV} {w : Int32} {a : Nat} {S : Dk} {h : Nat} {H : Nat → Dk} {r0 : Nat} {ρ : Nat → Nat} (hA : IsAll T a) (g : AVp V a S h H r0 ρ) {n : Nat} {cs : Nat → Int32} (ht : TC V (a + 29) cs n) : CtI E T l yX3_count (gw yX3_count cX3_count 2 (some .int)) { frames := 3, cells := 0, slots := 0, locals := 63 } [.ref a, .int w] V (fun (r : Int32) (V' : gV) => V' = V ∧ r = cCnt S h n w) := by
  refine ctI_of (L := [(0, .ref a), (1, .int w)]) (by decide) rfl (Nat.le_of_ble_eq_true rfl) rfl (fun p e s m args below meth c C => ?_)
  obtain ⟨π, hk⟩ := g.dk
  have hD := hA.2 _ g.r5
  have ha := hA.a
  have zn6 := hk.le
  have hx := ha.t
  have zt5 : a + 29 + 5 = a + 34 := by omega
  refine k_iload_n 0 1 C dX3_count_0 rfl 1 rfl ?_
  refine k_switch18 1 C (fun h1 => ?_) (fun h1 => ?_) (fun h1 => ?_) (fun h1 => ?_) (fun h1 => ?_) (fun h1 => ?_) (fun h1 => ?_) (fun h1 => ?_) (fun h1 => ?_) (fun h1 => ?_) (fun h1 => ?_) (fun h1 => ?_) (fun h1 => ?_) (fun h1 => ?_) (fun h1 => ?_) (fun h1 => ?_) (fun h1 => ?_) (fun h1 => ?_) (fun h1 => ?_)
  · refine k_tabOut 1 242 C dX3_count_1 h1 (by decide) ?_
    refine k_ldc 242 244 C dX3_count_242 rfl kc_X3_35 ?_
    refine k_iret 244 C dX3_count_244 rfl ?_
    exact ⟨rfl, by unfold cCnt; simp [sw_no (z := 0) h1, sw_no (z := 1) h1, sw_no (z := 2) h1, sw_no (z := 3) h1, sw_no (z := 4) h1, sw_no (z := 5) h1, sw_no (z := 6) h1, sw_no (z := 7) h1, sw_no (z := 8) h1, sw_no (z := 9) h1, sw_no (z := 10) h1, sw_no (z := 11) h1, sw_no (z := 12) h1, sw_no (z := 13) h1, sw_no (z := 14) h1, sw_no (z := 15) h1, sw_no (z := 16) h1, sw_no (z := 17) h1]⟩
  · refine k_tabAt 1 88 C dX3_count_1 (z := 0) h1 rfl rfl rfl (by decide) ?_
    refine k_aload_n 88 89 C dX3_count_88 rfl 0 rfl ?_
    refine k_get 89 92 C dX3_count_89 rfl ci_X3 0 fl_X3_10 (IsArm.o ‹_›) (by decide) rfl ?_
    refine k_rwQ (g.now) ?_
    refine k_getN 92 95 C dX3_count_92 rfl ci_X0 11 fn_X3_66 (IsDsk.o ‹_›) (by decide) rfl ?_
    refine k_rwI (hk.n) ?_
    refine k_iret 95 C dX3_count_95 rfl ?_
    exact ⟨rfl, by unfold cCnt; rw [h1]; rfl⟩
  · refine k_tabAt 1 96 C dX3_count_1 (z := 1) h1 rfl rfl rfl (by decide) ?_
    refine k_aload_n 96 97 C dX3_count_96 rfl 0 rfl ?_
    refine k_get 97 100 C dX3_count_97 rfl ci_X3 0 fl_X3_10 (IsArm.o ‹_›) (by decide) rfl ?_
    refine k_rwQ (g.now) ?_
    refine k_getN 100 103 C dX3_count_100 rfl ci_X0 0 fn_X3_36 (IsDsk.o ‹_›) (by decide) rfl ?_
    refine k_rwI (hk.f 0 (by decide) (by decide)) ?_
    refine k_iret 103 C dX3_count_103 rfl ?_
    exact ⟨rfl, by unfold cCnt; rw [h1]; rfl⟩
  · refine k_tabAt 1 104 C dX3_count_1 (z := 2) h1 rfl rfl rfl (by decide) ?_
    refine k_aload_n 104 105 C dX3_count_104 rfl 0 rfl ?_
    refine k_get 105 108 C dX3_count_105 rfl ci_X3 0 fl_X3_10 (IsArm.o ‹_›) (by decide) rfl ?_
    refine k_rwQ (g.now) ?_
    refine k_getN 108 111 C dX3_count_108 rfl ci_X0 1 fn_X3_39 (IsDsk.o ‹_›) (by decide) rfl ?_
    refine k_rwI (hk.f 1 (by decide) (by decide)) ?_
    refine k_iret 111 C dX3_count_111 rfl ?_
    exact ⟨rfl, by unfold cCnt; rw [h1]; rfl⟩
  · refine k_tabAt 1 112 C dX3_count_1 (z := 3) h1 rfl rfl rfl (by decide) ?_
    refine k_aload_n 112 113 C dX3_count_112 rfl 0 rfl ?_
    refine k_get 113 116 C dX3_count_113 rfl ci_X3 0 fl_X3_10 (IsArm.o ‹_›) (by decide) rfl ?_
    refine k_rwQ (g.now) ?_
    refine k_getN 116 119 C dX3_count_116 rfl ci_X0 2 fn_X3_45 (IsDsk.o ‹_›) (by decide) rfl ?_
    refine k_rwI (hk.f 2 (by decide) (by decide)) ?_
    refine k_iret 119 C dX3_count_119 rfl ?_
    exact ⟨rfl, by unfold cCnt; rw [h1]; rfl⟩
  · refine k_tabAt 1 120 C dX3_count_1 (z := 4) h1 rfl rfl rfl (by decide) ?_
    refine k_aload_n 120 121 C dX3_count_120 rfl 0 rfl ?_
    refine k_get 121 124 C dX3_count_121 rfl ci_X3 0 fl_X3_10 (IsArm.o ‹_›) (by decide) rfl ?_
    refine k_rwQ (g.now) ?_
    refine k_getN 124 127 C dX3_count_124 rfl ci_X0 3 fn_X3_48 (IsDsk.o ‹_›) (by decide) rfl ?_
    refine k_rwI (hk.f 3 (by decide) (by decide)) ?_
    refine k_iret 127 C dX3_count_127 rfl ?_
    exact ⟨rfl, by unfold cCnt; rw [h1]; rfl⟩
  · refine k_tabAt 1 128 C dX3_count_1 (z := 5) h1 rfl rfl rfl (by decide) ?_
    refine k_aload_n 128 129 C dX3_count_128 rfl 0 rfl ?_
    refine k_get 129 132 C dX3_count_129 rfl ci_X3 0 fl_X3_10 (IsArm.o ‹_›) (by decide) rfl ?_
    refine k_rwQ (g.now) ?_
    refine k_iconst 132 133 C dX3_count_132 rfl (v := 0) rfl ?_
    refine k_callVI 133 136 C [_] [] dX3_count_133 rfl (ct_X0_setting hD hk) mi_X0_setting ml_X3_58 im_X0_setting se_X0_setting ci_X0 (IsDsk.o ‹_›) rfl rfl ⟨Nat.le_of_ble_eq_true rfl, Nat.le_of_ble_eq_true rfl⟩ (Nat.le_of_ble_eq_true rfl) (Nat.zero_le _) (Nat.zero_le _) (fun r133 V133 p133 => ?_)
    obtain ⟨rfl, rfl⟩ := And.intro p133.1.symm p133.2
    refine k_rwI (show sSet S 0 = ks S 0 from rfl) ?_
    refine k_iret 136 C dX3_count_136 rfl ?_
    exact ⟨rfl, by unfold cCnt; rw [h1]; rfl⟩
  · refine k_tabAt 1 137 C dX3_count_1 (z := 6) h1 rfl rfl rfl (by decide) ?_
    refine k_aload_n 137 138 C dX3_count_137 rfl 0 rfl ?_
    refine k_get 138 141 C dX3_count_138 rfl ci_X3 0 fl_X3_10 (IsArm.o ‹_›) (by decide) rfl ?_
    refine k_rwQ (g.now) ?_
    refine k_iconst 141 142 C dX3_count_141 rfl (v := 1) rfl ?_
    refine k_callVI 142 145 C [_] [] dX3_count_142 rfl (ct_X0_setting hD hk) mi_X0_setting ml_X3_58 im_X0_setting se_X0_setting ci_X0 (IsDsk.o ‹_›) rfl rfl ⟨Nat.le_of_ble_eq_true rfl, Nat.le_of_ble_eq_true rfl⟩ (Nat.le_of_ble_eq_true rfl) (Nat.zero_le _) (Nat.zero_le _) (fun r142 V142 p142 => ?_)
    obtain ⟨rfl, rfl⟩ := And.intro p142.1.symm p142.2
    refine k_rwI (show sSet S 1 = ks S 1 from rfl) ?_
    refine k_iret 145 C dX3_count_145 rfl ?_
    exact ⟨rfl, by unfold cCnt; rw [h1]; rfl⟩
  · refine k_tabAt 1 146 C dX3_count_1 (z := 7) h1 rfl rfl rfl (by decide) ?_
    refine k_aload_n 146 147 C dX3_count_146 rfl 0 rfl ?_
    refine k_get 147 150 C dX3_count_147 rfl ci_X3 0 fl_X3_10 (IsArm.o ‹_›) (by decide) rfl ?_
    refine k_rwQ (g.now) ?_
    refine k_iconst 150 151 C dX3_count_150 rfl (v := 2) rfl ?_
    refine k_callVI 151 154 C [_] [] dX3_count_151 rfl (ct_X0_setting hD hk) mi_X0_setting ml_X3_58 im_X0_setting se_X0_setting ci_X0 (IsDsk.o ‹_›) rfl rfl ⟨Nat.le_of_ble_eq_true rfl, Nat.le_of_ble_eq_true rfl⟩ (Nat.le_of_ble_eq_true rfl) (Nat.zero_le _) (Nat.zero_le _) (fun r151 V151 p151 => ?_)
    obtain ⟨rfl, rfl⟩ := And.intro p151.1.symm p151.2
    refine k_rwI (show sSet S 2 = ks S 2 from rfl) ?_
    refine k_iret 154 C dX3_count_154 rfl ?_
    exact ⟨rfl, by unfold cCnt; rw [h1]; rfl⟩
  · refine k_tabAt 1 155 C dX3_count_1 (z := 8) h1 rfl rfl rfl (by decide) ?_
    refine k_aload_n 155 156 C dX3_count_155 rfl 0 rfl ?_
    refine k_get 156 159 C dX3_count_156 rfl ci_X3 0 fl_X3_10 (IsArm.o ‹_›) (by decide) rfl ?_
    refine k_rwQ (g.now) ?_
    refine k_iconst 159 160 C dX3_count_159 rfl (v := 3) rfl ?_
    refine k_callVI 160 163 C [_] [] dX3_count_160 rfl (ct_X0_setting hD hk) mi_X0_setting ml_X3_58 im_X0_setting se_X0_setting ci_X0 (IsDsk.o ‹_›) rfl rfl ⟨Nat.le_of_ble_eq_true rfl, Nat.le_of_ble_eq_true rfl⟩ (Nat.le_of_ble_eq_true rfl) (Nat.zero_le _) (Nat.zero_le _) (fun r160 V160 p160 => ?_)
    obtain ⟨rfl, rfl⟩ := And.intro p160.1.symm p160.2
    refine k_rwI (show sSet S 3 = ks S 3 from rfl) ?_
    refine k_iret 163 C dX3_count_163 rfl ?_
    exact ⟨rfl, by unfold cCnt; rw [h1]; rfl⟩
  · refine k_tabAt 1 164 C dX3_count_1 (z := 9) h1 rfl rfl rfl (by decide) ?_
    refine k_aload_n 164 165 C dX3_count_164 rfl 0 rfl ?_
    refine k_get 165 168 C dX3_count_165 rfl ci_X3 0 fl_X3_10 (IsArm.o ‹_›) (by decide) rfl ?_
    refine k_rwQ (g.now) ?_
    refine k_iconst 168 169 C dX3_count_168 rfl (v := 4) rfl ?_
    refine k_callVI 169 172 C [_] [] dX3_count_169 rfl (ct_X0_setting hD hk) mi_X0_setting ml_X3_58 im_X0_setting se_X0_setting ci_X0 (IsDsk.o ‹_›) rfl rfl ⟨Nat.le_of_ble_eq_true rfl, Nat.le_of_ble_eq_true rfl⟩ (Nat.le_of_ble_eq_true rfl) (Nat.zero_le _) (Nat.zero_le _) (fun r169 V169 p169 => ?_)
    obtain ⟨rfl, rfl⟩ := And.intro p169.1.symm p169.2
    refine k_rwI (show sSet S 4 = ks S 4 from rfl) ?_
    refine k_iret 172 C dX3_count_172 rfl ?_
    exact ⟨rfl, by unfold cCnt; rw [h1]; rfl⟩
  · refine k_tabAt 1 173 C dX3_count_1 (z := 10) h1 rfl rfl rfl (by decide) ?_
    refine k_aload_n 173 174 C dX3_count_173 rfl 0 rfl ?_
    refine k_get 174 177 C dX3_count_174 rfl ci_X3 0 fl_X3_10 (IsArm.o ‹_›) (by decide) rfl ?_
    refine k_rwQ (g.now) ?_
    refine k_getN 177 180 C dX3_count_177 rfl ci_X0 5 fn_X3_69 (IsDsk.o ‹_›) (by decide) rfl ?_
    refine k_rwI (hk.f 5 (by decide) (by decide)) ?_
    refine k_iret 180 C dX3_count_180 rfl ?_
    exact ⟨rfl, by unfold cCnt; rw [h1]; rfl⟩
  · refine k_tabAt 1 181 C dX3_count_1 (z := 11) h1 rfl rfl rfl (by decide) ?_
    refine k_aload_n 181 182 C dX3_count_181 rfl 0 rfl ?_
    refine k_get 182 185 C dX3_count_182 rfl ci_X3 0 fl_X3_10 (IsArm.o ‹_›) (by decide) rfl ?_
    refine k_rwQ (g.now) ?_
    refine k_callVI 185 188 C [] [] dX3_count_185 rfl (ct_X0_isBlunt hD hk) mi_X0_isBlunt ml_X3_72 im_X0_isBlunt se_X0_isBlunt ci_X0 (IsDsk.o ‹_›) rfl rfl ⟨Nat.le_of_ble_eq_true rfl, Nat.le_of_ble_eq_true rfl⟩ (Nat.le_of_ble_eq_true rfl) (Nat.zero_le _) (Nat.zero_le _) (fun r185 V185 p185 => ?_)
    obtain ⟨rfl, rfl⟩ := And.intro p185.1.symm p185.2
    refine k_ifb_eq 188 195 191 C dX3_count_188 (by decide) rfl (fun h188 => ?_) (fun h188 => ?_)
    · refine k_iconst 195 196 C dX3_count_195 rfl (v := 0) rfl ?_
      refine k_iret 196 C dX3_count_196 rfl ?_
      first | exact ⟨rfl, by unfold cCnt; rw [h1]; simp [h188]⟩
    · refine k_iconst 191 192 C dX3_count_191 rfl (v := 1) rfl ?_
      refine k_goto 192 196 C dX3_count_192 (by decide) ?_
      refine k_iret 196 C dX3_count_196 rfl ?_
      first | exact ⟨rfl, by unfold cCnt; rw [h1]; simp [h188]⟩
  · refine k_tabAt 1 197 C dX3_count_1 (z := 12) h1 rfl rfl rfl (by decide) ?_
    refine k_aload_n 197 198 C dX3_count_197 rfl 0 rfl ?_
    refine k_get 198 201 C dX3_count_198 rfl ci_X3 0 fl_X3_10 (IsArm.o ‹_›) (by decide) rfl ?_
    refine k_rwQ (g.now) ?_
    refine k_getN 201 204 C dX3_count_201 rfl ci_X0 6 fn_X3_76 (IsDsk.o ‹_›) (by decide) rfl ?_
    refine k_rwI (hk.f 6 (by decide) (by decide)) ?_
    refine k_iret 204 C dX3_count_204 rfl ?_
    exact ⟨rfl, by unfold cCnt; rw [h1]; rfl⟩
  · refine k_tabAt 1 205 C dX3_count_1 (z := 13) h1 rfl rfl rfl (by decide) ?_
    refine k_aload_n 205 206 C dX3_count_205 rfl 0 rfl ?_
    refine k_get 206 209 C dX3_count_206 rfl ci_X3 0 fl_X3_10 (IsArm.o ‹_›) (by decide) rfl ?_
    refine k_rwQ (g.now) ?_
    refine k_getN 209 212 C dX3_count_209 rfl ci_X0 7 fn_X3_79 (IsDsk.o ‹_›) (by decide) rfl ?_
    refine k_rwI (hk.f 7 (by decide) (by decide)) ?_
    refine k_iret 212 C dX3_count_212 rfl ?_
    exact ⟨rfl, by unfold cCnt; rw [h1]; rfl⟩
  · refine k_tabAt 1 213 C dX3_count_1 (z := 14) h1 rfl rfl rfl (by decide) ?_
    refine k_aload_n 213 214 C dX3_count_213 rfl 0 rfl ?_
    refine k_get 214 217 C dX3_count_214 rfl ci_X3 0 fl_X3_10 (IsArm.o ‹_›) (by decide) rfl ?_
    refine k_rwQ (g.now) ?_
    refine k_getN 217 220 C dX3_count_217 rfl ci_X0 8 fn_X3_82 (IsDsk.o ‹_›) (by decide) rfl ?_
    refine k_rwI (hk.f 8 (by decide) (by decide)) ?_
    refine k_iret 220 C dX3_count_220 rfl ?_
    exact ⟨rfl, by unfold cCnt; rw [h1]; rfl⟩
  · refine k_tabAt 1 221 C dX3_count_1 (z := 15) h1 rfl rfl rfl (by decide) ?_
    refine k_aload_n 221 222 C dX3_count_221 rfl 0 rfl ?_
    refine k_get 222 225 C dX3_count_222 rfl ci_X3 0 fl_X3_10 (IsArm.o ‹_›) (by decide) rfl ?_
    refine k_rwQ (g.now) ?_
    refine k_getN 225 228 C dX3_count_225 rfl ci_X0 9 fn_X3_85 (IsDsk.o ‹_›) (by decide) rfl ?_
    refine k_rwI (hk.f 9 (by decide) (by decide)) ?_
    refine k_iret 228 C dX3_count_228 rfl ?_
    exact ⟨rfl, by unfold cCnt; rw [h1]; rfl⟩
  · refine k_tabAt 1 229 C dX3_count_1 (z := 16) h1 rfl rfl rfl (by decide) ?_
    refine k_aload_n 229 230 C dX3_count_229 rfl 0 rfl ?_
    refine k_get 230 233 C dX3_count_230 rfl ci_X3 2 fl_X3_20 (IsArm.o ‹_›) (by decide) rfl ?_
    refine k_rwI (g.st) ?_
    refine k_iret 233 C dX3_count_233 rfl ?_
    exact ⟨rfl, by unfold cCnt; rw [h1]; rfl⟩
  · refine k_tabAt 1 234 C dX3_count_1 (z := 17) h1 rfl rfl rfl (by decide) ?_
    refine k_aload_n 234 235 C dX3_count_234 rfl 0 rfl ?_
    refine k_getF 235 238 C dX3_count_235 rfl ci_X3 3 fl_X3_27 (IsArm.o ‹_›) (by decide) (IsArm.f3 ‹_›) rfl ?_
    refine k_getN 238 241 C dX3_count_238 rfl ci_X2 1 fn_X3_88 (IsTxt.o hx) (by decide) rfl ?_
    refine k_rwI (ht.1) ?_
    refine k_iret 241 C dX3_count_241 rfl ?_
    exact ⟨rfl, by unfold cCnt; rw [h1]; rfl⟩
set_option maxHeartbeats 4000000 in
set_option maxRecDepth 100000 in
theorem ct_X3_ratio {E : gE} {T : gT} {l : Launch} {V : gV} {i q : Int32} {a : Nat} {S : Dk} {h : Nat} {H : Nat → Dk} {r0 : Nat} {ρ : Nat → Nat} (hA : IsAll T a) (g : AVp V a S h H r0 ρ) : CtI E T l yX3_ratio (gw yX3_ratio cX3_ratio 4 (some .int)) { frames := 2, cells := 0, slots := 0, locals := 58 } [.ref a, .int i, .int q] V (fun (r : Int32) (V' : gV) => V' = V ∧ r = cRat S i q) := by
  refine ctI_of (L := [(0, .ref a), (1, .int i), (2, .int q)]) (by decide) rfl (Nat.le_of_ble_eq_true rfl) rfl (fun p e s m args below meth c C => ?_)
  obtain ⟨π, hk⟩ := g.dk
  have hD := hA.2 _ g.r5
  have ha := hA.a
  have zn6 := hk.le
  refine k_aload_n 0 1 C dX3_ratio_0 rfl 0 rfl ?_
  refine k_get 1 4 C dX3_ratio_1 rfl ci_X3 0 fl_X3_10 (IsArm.o ‹_›) (by decide) rfl ?_
  refine k_rwQ (g.now) ?_
  refine k_iload_n 4 5 C dX3_ratio_4 rfl 1 rfl ?_
  refine k_callVQ 5 8 C [_] [] dX3_ratio_5 rfl (ct_X0_find hD hk) mi_X0_find ml_X3_100 im_X0_find se_X0_find ci_X0 (IsDsk.o ‹_›) rfl rfl ⟨Nat.le_of_ble_eq_true rfl, Nat.le_of_ble_eq_true rfl⟩ (Nat.le_of_ble_eq_true rfl) (Nat.zero_le _) (Nat.zero_le _) (fun r5 V5 p5 => ?_)
  obtain ⟨rfl, rfl⟩ := And.intro p5.1.symm p5.2
  rcases sFind_cases (dAd a r0) S π hk.le i with ⟨zc, zr⟩ | ⟨j, zj, rfl, zr⟩
  · refine k_rwQ zr ?_
    refine k_astore_nq 8 9 C [(3, _), (0, _), (1, _), (2, _)] dX3_ratio_8 rfl (by decide) rfl ?_
    refine k_aload_nq 9 10 C dX3_ratio_9 rfl 0 rfl ?_
    refine k_ifnullN 10 22 C dX3_ratio_10 (by decide) ?_
    refine k_ldc 22 24 C dX3_ratio_22 rfl kc_X3_35 ?_
    refine k_iret 24 C dX3_ratio_24 rfl ?_
    first
      | exact ⟨rfl, by unfold cRat; rw [if_neg (fun zz => zc zz.1)]⟩
      | exact ⟨rfl, by unfold cRat; rw [if_neg (fun zz => h19 zz.2)]⟩
  · refine k_rwQ zr ?_
    have zq := hD.d (π j) (hk.p j (by omega))
    have zv := hk.d j zj
    have zi : inD S (nI j) := jin hk.le zj
    have zcl : (nI j).toNatClampNeg = j := nI_clamp (by omega)
    refine k_astore_n 8 9 C [(3, _), (0, _), (1, _), (2, _)] dX3_ratio_8 rfl (by decide) rfl ?_
    refine k_aload_n 9 10 C dX3_ratio_9 rfl 0 rfl ?_
    refine k_ifnullO 10 13 C dX3_ratio_10 rfl ?_
    refine k_iload_n 13 14 C dX3_ratio_13 rfl 3 rfl ?_
    refine k_iconst 14 15 C dX3_ratio_14 rfl (v := 0) rfl ?_
    refine k_iconst 15 16 C dX3_ratio_15 rfl (v := 1) rfl ?_
    refine k_callSI 16 19 C [_, _, _] [] dX3_ratio_16 rfl ct_X3_isWithin mi_X3_isWithin ml_X3_31 st_X3_isWithin rfl rfl ⟨Nat.le_of_ble_eq_true rfl, Nat.le_of_ble_eq_true rfl⟩ (Nat.le_of_ble_eq_true rfl) (Nat.zero_le _) (Nat.zero_le _) (fun r16 V16 p16 => ?_)
    obtain ⟨rfl, rfl⟩ := And.intro p16.1.symm p16.2
    refine k_ifb_ne 19 25 22 C dX3_ratio_19 (by decide) rfl (fun h19 => ?_) (fun h19 => ?_)
    · refine k_aload_n 25 26 C dX3_ratio_25 rfl 0 rfl ?_
      refine k_getN 26 29 C dX3_ratio_26 rfl ci_X1 1 fn_X3_169 (IsDrw.o zq) (by decide) rfl ?_
      refine k_rwL (zv.f1) ?_
      refine k_aload_n 29 30 C dX3_ratio_29 rfl 0 rfl ?_
      refine k_getN 30 33 C dX3_ratio_30 rfl ci_X1 2 fn_X3_173 (IsDrw.o zq) (by decide) rfl ?_
      refine k_rwL (zv.f2) ?_
      refine k_iload_n 33 34 C dX3_ratio_33 rfl 3 rfl ?_
      refine k_callSL 34 37 C [_, _, _] [] dX3_ratio_34 rfl ct_X3_lowest mi_X3_lowest ml_X3_176 st_X3_lowest rfl rfl ⟨Nat.le_of_ble_eq_true rfl, Nat.le_of_ble_eq_true rfl⟩ (Nat.le_of_ble_eq_true rfl) (Nat.zero_le _) (Nat.zero_le _) (fun r34 V34 p34 => ?_)
      obtain ⟨rfl, rfl⟩ := And.intro p34.1.symm p34.2
      refine k_l2i 37 38 C dX3_ratio_37 rfl  ?_
      refine k_iret 38 C dX3_ratio_38 rfl ?_
      exact ⟨rfl, by unfold cRat; rw [if_pos ⟨zi, h19⟩, zcl]⟩
    · refine k_ldc 22 24 C dX3_ratio_22 rfl kc_X3_35 ?_
      refine k_iret 24 C dX3_ratio_24 rfl ?_
      first
        | exact ⟨rfl, by unfold cRat; rw [if_neg (fun zz => zc zz.1)]⟩
        | exact ⟨rfl, by unfold cRat; rw [if_neg (fun zz => h19 zz.2)]⟩
set_option maxHeartbeats 4000000 in
set_option maxRecDepth 100000 in
theorem ct_X3_pointInfo {E : gE} {T : gT} {l : Launch} {V : gV} {i x w : Int32} {a : Nat} {S : Dk} {h : Nat} {H : Nat → Dk} {r0 : Nat} {ρ : Nat → Nat} (hA : IsAll T a) (g : AVp V a S h H r0 ρ) : CtL E T l yX3_pointInfo (gw yX3_pointInfo cX3_pointInfo 5 (some .long)) { frames := 3, cells := 0, slots := 0, locals := 67 } [.ref a, .int i, .int x, .int w] V (fun (r : Int64) (V' : gV) => V' = V ∧ r = cPnI S i x w) := by
  refine ctL_of (L := [(0, .ref a), (1, .int i), (2, .int x), (3, .int w)]) (by decide) rfl (Nat.le_of_ble_eq_true rfl) rfl (fun p e s m args below meth c C => ?_)
  obtain ⟨π, hk⟩ := g.dk
  have hD := hA.2 _ g.r5
  have ha := hA.a
  have zn6 := hk.le
  refine k_aload_n 0 1 C dX3_pointInfo_0 rfl 0 rfl ?_
  refine k_get 1 4 C dX3_pointInfo_1 rfl ci_X3 0 fl_X3_10 (IsArm.o ‹_›) (by decide) rfl ?_
  refine k_rwQ (g.now) ?_
  refine k_iload_n 4 5 C dX3_pointInfo_4 rfl 1 rfl ?_
  refine k_callVQ 5 8 C [_] [] dX3_pointInfo_5 rfl (ct_X0_find hD hk) mi_X0_find ml_X3_100 im_X0_find se_X0_find ci_X0 (IsDsk.o ‹_›) rfl rfl ⟨Nat.le_of_ble_eq_true rfl, Nat.le_of_ble_eq_true rfl⟩ (Nat.le_of_ble_eq_true rfl) (Nat.zero_le _) (Nat.zero_le _) (fun r5 V5 p5 => ?_)
  obtain ⟨rfl, rfl⟩ := And.intro p5.1.symm p5.2
  rcases sFind_cases (dAd a r0) S π hk.le i with ⟨zc, zr⟩ | ⟨j, zj, rfl, zr⟩
  · refine k_rwQ zr ?_
    refine k_astoreq 8 10 C [(4, _), (0, _), (1, _), (2, _), (3, _)] dX3_pointInfo_8 rfl (by decide) rfl ?_
    refine k_aloadq 10 12 C dX3_pointInfo_10 rfl 0 rfl ?_
    refine k_ifnullN 12 24 C dX3_pointInfo_12 (by decide) ?_
    refine k_ldc2 24 27 C dX3_pointInfo_24 rfl kl_X3_183 ?_
    refine k_lret 27 C dX3_pointInfo_27 rfl ?_
    first
      | exact ⟨rfl, by unfold cPnI; rw [if_neg (fun zz => zc zz.1)]⟩
      | exact ⟨rfl, by unfold cPnI; rw [zcl, if_neg (fun zz => h21 zz.2)]⟩
  · refine k_rwQ zr ?_
    have zq := hD.d (π j) (hk.p j (by omega))
    have zv := hk.d j zj
    have zi : inD S (nI j) := jin hk.le zj
    have zcl : (nI j).toNatClampNeg = j := nI_clamp (by omega)
    refine k_astore 8 10 C [(4, _), (0, _), (1, _), (2, _), (3, _)] dX3_pointInfo_8 rfl (by decide) rfl ?_
    refine k_aload 10 12 C dX3_pointInfo_10 rfl 0 rfl ?_
    refine k_ifnullO 12 15 C dX3_pointInfo_12 rfl ?_
    refine k_aload 15 17 C dX3_pointInfo_15 rfl 0 rfl ?_
    refine k_iload_n 17 18 C dX3_pointInfo_17 rfl 3 rfl ?_
    refine k_callVI 18 21 C [_] [] dX3_pointInfo_18 rfl (ct_X1_has zq zv) mi_X1_has ml_X3_180 im_X1_has se_X1_has ci_X1 (IsDrw.o zq) rfl rfl ⟨Nat.le_of_ble_eq_true rfl, Nat.le_of_ble_eq_true rfl⟩ (Nat.le_of_ble_eq_true rfl) (Nat.zero_le _) (Nat.zero_le _) (fun r18 V18 p18 => ?_)
    obtain ⟨rfl, rfl⟩ := And.intro p18.1.symm p18.2
    refine k_ifb_ne 21 28 24 C dX3_pointInfo_21 (by decide) rfl (fun h21 => ?_) (fun h21 => ?_)
    · refine k_iload_n 28 29 C dX3_pointInfo_28 rfl 4 rfl ?_
      refine k_switch7 29 C (fun h29 => ?_) (fun h29 => ?_) (fun h29 => ?_) (fun h29 => ?_) (fun h29 => ?_) (fun h29 => ?_) (fun h29 => ?_) (fun h29 => ?_)
      · refine k_tabOut 29 180 C dX3_pointInfo_29 h29 (by decide) ?_
        refine k_ldc2 180 183 C dX3_pointInfo_180 rfl kl_X3_183 ?_
        refine k_lret 183 C dX3_pointInfo_183 rfl ?_
        exact ⟨rfl, by unfold cPnI cPI; rw [zcl, if_pos ⟨zi, h21⟩]; simp [sw_no (z := 0) h29, sw_no (z := 1) h29, sw_no (z := 2) h29, sw_no (z := 3) h29, sw_no (z := 4) h29, sw_no (z := 5) h29, sw_no (z := 6) h29]⟩
      · refine k_tabAt 29 72 C dX3_pointInfo_29 (z := 0) h29 rfl rfl rfl (by decide) ?_
        refine k_aload 72 74 C dX3_pointInfo_72 rfl 0 rfl ?_
        refine k_iload_n 74 75 C dX3_pointInfo_74 rfl 3 rfl ?_
        refine k_callVL 75 78 C [_] [] dX3_pointInfo_75 rfl (ct_X1_x zq zv) mi_X1_x ml_X3_185 im_X1_x se_X1_x ci_X1 (IsDrw.o zq) rfl rfl ⟨Nat.le_of_ble_eq_true rfl, Nat.le_of_ble_eq_true rfl⟩ (Nat.le_of_ble_eq_true rfl) (Nat.zero_le _) (Nat.zero_le _) (fun r75 V75 p75 => ?_)
        obtain ⟨rfl, rfl⟩ := And.intro p75.1.symm p75.2
        refine k_aload 78 80 C dX3_pointInfo_78 rfl 0 rfl ?_
        refine k_getN 80 83 C dX3_pointInfo_80 rfl ci_X1 2 fn_X3_173 (IsDrw.o zq) (by decide) rfl ?_
        refine k_rwL (zv.f2) ?_
        refine k_iconst 83 84 C dX3_pointInfo_83 rfl (v := 0) rfl ?_
        refine k_callSL 84 87 C [_, _, _] [] dX3_pointInfo_84 rfl ct_X3_lowest mi_X3_lowest ml_X3_176 st_X3_lowest rfl rfl ⟨Nat.le_of_ble_eq_true rfl, Nat.le_of_ble_eq_true rfl⟩ (Nat.le_of_ble_eq_true rfl) (Nat.zero_le _) (Nat.zero_le _) (fun r84 V84 p84 => ?_)
        obtain ⟨rfl, rfl⟩ := And.intro p84.1.symm p84.2
        refine k_lret 87 C dX3_pointInfo_87 rfl ?_
        exact ⟨rfl, by unfold cPnI cPI; rw [zcl, if_pos ⟨zi, h21⟩, h29]; simp [h21]⟩
      · refine k_tabAt 29 88 C dX3_pointInfo_29 (z := 1) h29 rfl rfl rfl (by decide) ?_
        refine k_aload 88 90 C dX3_pointInfo_88 rfl 0 rfl ?_
        refine k_iload_n 90 91 C dX3_pointInfo_90 rfl 3 rfl ?_
        refine k_callVL 91 94 C [_] [] dX3_pointInfo_91 rfl (ct_X1_x zq zv) mi_X1_x ml_X3_185 im_X1_x se_X1_x ci_X1 (IsDrw.o zq) rfl rfl ⟨Nat.le_of_ble_eq_true rfl, Nat.le_of_ble_eq_true rfl⟩ (Nat.le_of_ble_eq_true rfl) (Nat.zero_le _) (Nat.zero_le _) (fun r91 V91 p91 => ?_)
        obtain ⟨rfl, rfl⟩ := And.intro p91.1.symm p91.2
        refine k_aload 94 96 C dX3_pointInfo_94 rfl 0 rfl ?_
        refine k_getN 96 99 C dX3_pointInfo_96 rfl ci_X1 2 fn_X3_173 (IsDrw.o zq) (by decide) rfl ?_
        refine k_rwL (zv.f2) ?_
        refine k_iconst 99 100 C dX3_pointInfo_99 rfl (v := 1) rfl ?_
        refine k_callSL 100 103 C [_, _, _] [] dX3_pointInfo_100 rfl ct_X3_lowest mi_X3_lowest ml_X3_176 st_X3_lowest rfl rfl ⟨Nat.le_of_ble_eq_true rfl, Nat.le_of_ble_eq_true rfl⟩ (Nat.le_of_ble_eq_true rfl) (Nat.zero_le _) (Nat.zero_le _) (fun r100 V100 p100 => ?_)
        obtain ⟨rfl, rfl⟩ := And.intro p100.1.symm p100.2
        refine k_lret 103 C dX3_pointInfo_103 rfl ?_
        exact ⟨rfl, by unfold cPnI cPI; rw [zcl, if_pos ⟨zi, h21⟩, h29]; simp [h21]⟩
      · refine k_tabAt 29 104 C dX3_pointInfo_29 (z := 2) h29 rfl rfl rfl (by decide) ?_
        refine k_aload 104 106 C dX3_pointInfo_104 rfl 0 rfl ?_
        refine k_iload_n 106 107 C dX3_pointInfo_106 rfl 3 rfl ?_
        refine k_callVL 107 110 C [_] [] dX3_pointInfo_107 rfl (ct_X1_y zq zv) mi_X1_y ml_X3_189 im_X1_y se_X1_y ci_X1 (IsDrw.o zq) rfl rfl ⟨Nat.le_of_ble_eq_true rfl, Nat.le_of_ble_eq_true rfl⟩ (Nat.le_of_ble_eq_true rfl) (Nat.zero_le _) (Nat.zero_le _) (fun r107 V107 p107 => ?_)
        obtain ⟨rfl, rfl⟩ := And.intro p107.1.symm p107.2
        refine k_aload 110 112 C dX3_pointInfo_110 rfl 0 rfl ?_
        refine k_getN 112 115 C dX3_pointInfo_112 rfl ci_X1 2 fn_X3_173 (IsDrw.o zq) (by decide) rfl ?_
        refine k_rwL (zv.f2) ?_
        refine k_iconst 115 116 C dX3_pointInfo_115 rfl (v := 0) rfl ?_
        refine k_callSL 116 119 C [_, _, _] [] dX3_pointInfo_116 rfl ct_X3_lowest mi_X3_lowest ml_X3_176 st_X3_lowest rfl rfl ⟨Nat.le_of_ble_eq_true rfl, Nat.le_of_ble_eq_true rfl⟩ (Nat.le_of_ble_eq_true rfl) (Nat.zero_le _) (Nat.zero_le _) (fun r116 V116 p116 => ?_)
        obtain ⟨rfl, rfl⟩ := And.intro p116.1.symm p116.2
        refine k_lret 119 C dX3_pointInfo_119 rfl ?_
        exact ⟨rfl, by unfold cPnI cPI; rw [zcl, if_pos ⟨zi, h21⟩, h29]; simp [h21]⟩
      · refine k_tabAt 29 120 C dX3_pointInfo_29 (z := 3) h29 rfl rfl rfl (by decide) ?_
        refine k_aload 120 122 C dX3_pointInfo_120 rfl 0 rfl ?_
        refine k_iload_n 122 123 C dX3_pointInfo_122 rfl 3 rfl ?_
        refine k_callVL 123 126 C [_] [] dX3_pointInfo_123 rfl (ct_X1_y zq zv) mi_X1_y ml_X3_189 im_X1_y se_X1_y ci_X1 (IsDrw.o zq) rfl rfl ⟨Nat.le_of_ble_eq_true rfl, Nat.le_of_ble_eq_true rfl⟩ (Nat.le_of_ble_eq_true rfl) (Nat.zero_le _) (Nat.zero_le _) (fun r123 V123 p123 => ?_)
        obtain ⟨rfl, rfl⟩ := And.intro p123.1.symm p123.2
        refine k_aload 126 128 C dX3_pointInfo_126 rfl 0 rfl ?_
        refine k_getN 128 131 C dX3_pointInfo_128 rfl ci_X1 2 fn_X3_173 (IsDrw.o zq) (by decide) rfl ?_
        refine k_rwL (zv.f2) ?_
        refine k_iconst 131 132 C dX3_pointInfo_131 rfl (v := 1) rfl ?_
        refine k_callSL 132 135 C [_, _, _] [] dX3_pointInfo_132 rfl ct_X3_lowest mi_X3_lowest ml_X3_176 st_X3_lowest rfl rfl ⟨Nat.le_of_ble_eq_true rfl, Nat.le_of_ble_eq_true rfl⟩ (Nat.le_of_ble_eq_true rfl) (Nat.zero_le _) (Nat.zero_le _) (fun r132 V132 p132 => ?_)
        obtain ⟨rfl, rfl⟩ := And.intro p132.1.symm p132.2
        refine k_lret 135 C dX3_pointInfo_135 rfl ?_
        exact ⟨rfl, by unfold cPnI cPI; rw [zcl, if_pos ⟨zi, h21⟩, h29]; simp [h21]⟩
      · refine k_tabAt 29 136 C dX3_pointInfo_29 (z := 4) h29 rfl rfl rfl (by decide) ?_
        refine k_aload 136 138 C dX3_pointInfo_136 rfl 0 rfl ?_
        refine k_iload_n 138 139 C dX3_pointInfo_138 rfl 3 rfl ?_
        refine k_callVI 139 142 C [_] [] dX3_pointInfo_139 rfl (ct_X1_isJoined zq zv) mi_X1_isJoined ml_X3_192 im_X1_isJoined se_X1_isJoined ci_X1 (IsDrw.o zq) rfl rfl ⟨Nat.le_of_ble_eq_true rfl, Nat.le_of_ble_eq_true rfl⟩ (Nat.le_of_ble_eq_true rfl) (Nat.zero_le _) (Nat.zero_le _) (fun r139 V139 p139 => ?_)
        obtain ⟨rfl, rfl⟩ := And.intro p139.1.symm p139.2
        refine k_ifb_eq 142 149 145 C dX3_pointInfo_142 (by decide) rfl (fun h142 => ?_) (fun h142 => ?_)
        · refine k_lconst 149 150 C dX3_pointInfo_149 rfl (v := 0) rfl ?_
          refine k_lret 150 C dX3_pointInfo_150 rfl ?_
          exact ⟨rfl, by unfold cPnI cPI; rw [zcl, if_pos ⟨zi, h21⟩, h29]; simp [h21, h142]⟩
        · refine k_lconst 145 146 C dX3_pointInfo_145 rfl (v := 1) rfl ?_
          refine k_goto 146 150 C dX3_pointInfo_146 (by decide) ?_
          refine k_lret 150 C dX3_pointInfo_150 rfl ?_
          exact ⟨rfl, by unfold cPnI cPI; rw [zcl, if_pos ⟨zi, h21⟩, h29]; simp [h21, h142]⟩
      · refine k_tabAt 29 151 C dX3_pointInfo_29 (z := 5) h29 rfl rfl rfl (by decide) ?_
        refine k_aload 151 153 C dX3_pointInfo_151 rfl 0 rfl ?_
        refine k_iload_n 153 154 C dX3_pointInfo_153 rfl 3 rfl ?_
        refine k_callVI 154 157 C [_] [] dX3_pointInfo_154 rfl (ct_X1_width zq zv) mi_X1_width ml_X3_195 im_X1_width se_X1_width ci_X1 (IsDrw.o zq) rfl rfl ⟨Nat.le_of_ble_eq_true rfl, Nat.le_of_ble_eq_true rfl⟩ (Nat.le_of_ble_eq_true rfl) (Nat.zero_le _) (Nat.zero_le _) (fun r154 V154 p154 => ?_)
        obtain ⟨rfl, rfl⟩ := And.intro p154.1.symm p154.2
        refine k_i2l 157 158 C dX3_pointInfo_157 rfl  ?_
        refine k_lret 158 C dX3_pointInfo_158 rfl ?_
        exact ⟨rfl, by unfold cPnI cPI; rw [zcl, if_pos ⟨zi, h21⟩, h29]; simp [h21]⟩
      · refine k_tabAt 29 159 C dX3_pointInfo_29 (z := 6) h29 rfl rfl rfl (by decide) ?_
        refine k_aload 159 161 C dX3_pointInfo_159 rfl 0 rfl ?_
        refine k_iload_n 161 162 C dX3_pointInfo_161 rfl 3 rfl ?_
        refine k_callVI 162 165 C [_] [] dX3_pointInfo_162 rfl (ct_X1_width zq zv) mi_X1_width ml_X3_195 im_X1_width se_X1_width ci_X1 (IsDrw.o zq) rfl rfl ⟨Nat.le_of_ble_eq_true rfl, Nat.le_of_ble_eq_true rfl⟩ (Nat.le_of_ble_eq_true rfl) (Nat.zero_le _) (Nat.zero_le _) (fun r162 V162 p162 => ?_)
        obtain ⟨rfl, rfl⟩ := And.intro p162.1.symm p162.2
        refine k_if_le 165 178 168 C dX3_pointInfo_165 (by decide) rfl (fun h165 => ?_) (fun h165 => ?_)
        · have z165 : ¬ 0 < vW (kdr S j) x := i32_not_lt.mpr h165
          refine k_lconst 178 179 C dX3_pointInfo_178 rfl (v := 0) rfl ?_
          refine k_lret 179 C dX3_pointInfo_179 rfl ?_
          exact ⟨rfl, by unfold cPnI cPI; rw [zcl, if_pos ⟨zi, h21⟩, h29]; simp [z165]⟩
        · have z165 : 0 < vW (kdr S j) x := i32_not_le.mp h165
          refine k_aload 168 170 C dX3_pointInfo_168 rfl 0 rfl ?_
          refine k_iload_n 170 171 C dX3_pointInfo_170 rfl 3 rfl ?_
          refine k_callVI 171 174 C [_] [] dX3_pointInfo_171 rfl (ct_X1_lineLength zq zv) mi_X1_lineLength ml_X3_198 im_X1_lineLength se_X1_lineLength ci_X1 (IsDrw.o zq) rfl rfl ⟨Nat.le_of_ble_eq_true rfl, Nat.le_of_ble_eq_true rfl⟩ (Nat.le_of_ble_eq_true rfl) (Nat.zero_le _) (Nat.zero_le _) (fun r171 V171 p171 => ?_)
          obtain ⟨rfl, rfl⟩ := And.intro p171.1.symm p171.2
          refine k_i2l 174 175 C dX3_pointInfo_174 rfl  ?_
          refine k_goto 175 179 C dX3_pointInfo_175 (by decide) ?_
          refine k_lret 179 C dX3_pointInfo_179 rfl ?_
          exact ⟨rfl, by unfold cPnI cPI; rw [zcl, if_pos ⟨zi, h21⟩, h29]; simp [z165]⟩
    · refine k_ldc2 24 27 C dX3_pointInfo_24 rfl kl_X3_183 ?_
      refine k_lret 27 C dX3_pointInfo_27 rfl ?_
      first
        | exact ⟨rfl, by unfold cPnI; rw [if_neg (fun zz => zc zz.1)]⟩
        | exact ⟨rfl, by unfold cPnI; rw [zcl, if_neg (fun zz => h21 zz.2)]⟩

