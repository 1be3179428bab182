/-! reason, why, copy -/
theorem br_pq {V : gV} {M : Nat} {f : Nat → Int64} (hf : PQ V M f) : PQ (brV V (M + 1) (M + 2) 0 0 915) M f := fun j hj => by
  rw [brV_off (show M + 1 ≠ M + 2 by omega)]; exact hf j hj
theorem br_back {V V1 : gV} {M h : Nat} {f g : Nat → Int64} {H : Nat → Nat → Int64} (hf : PQ V M f) (hh : HQ V M h H) (zc : Pg (brV V (M + 1) (M + 2) 0 0 915) V1 M g) : PQ (brV V1 (M + 2) (M + 1) 0 0 915) M f ∧ HQ (brV V1 (M + 2) (M + 1) 0 0 915) M h H ∧ KpM V (brV V1 (M + 2) (M + 1) 0 0 915) M := by
  have e1 : V1.1 = V.1 := zc.1
  refine ⟨fun j hj => ?_, ⟨?_, hh.2.1, fun k hk j hj => ?_⟩, fun b _ => ?_, fun j _ => ?_, fun b hb => ?_, zc.2.2.1⟩
  · have z := brV_y (V := V1) (x := M + 2) (y := M + 1) (i := 0) (j := 0) hj
    have z2 := brV_y (V := V) (x := M + 1) (y := M + 2) (i := 0) (j := 0) hj
    rw [Nat.zero_add] at z z2
    rw [z, zc.2.1 (M + 2) (by omega) (by omega), z2]
    exact hf j hj
  · show V1.1 M 3 = _; rw [e1]; exact hh.1
  · rw [brV_off (show M + 3 ≠ M + 1 by omega), zc.2.1 (M + 3) (by omega) (by omega), brV_off (show M + 3 ≠ M + 2 by omega)]
    exact hh.2.2 k hk j hj
  · show V1.1 b = _; rw [e1]
  · show V1.1 M j = _; rw [e1]
  · rw [brV_off (show b ≠ M + 1 by omega), zc.2.1 b (by omega) (by omega), brV_off (show b ≠ M + 2 by omega)]
def mRea (f : Nat → Int64) (n : Nat) (np : Nat → Nat) (d : Nat) : Int32 := if np d = 0 then 1 else if ¬ 1 + f 9 / f 8 ≤ 9 then 2 else if n = 6 then 3 else if cpZ f n d (np d) = true then 0 else 4
def mWhy (f : Nat → Int64) (n : Nat) (np : Nat → Nat) (i : Int32) : Int32 := if inM n i then mRea f n np i.toNatClampNeg else -2000000001
set_option maxHeartbeats 4000000 in
set_option maxRecDepth 100000 in
theorem ct_X4_reason {E : gE} {T : gT} {l : Launch} {V : gV} {d : Nat} {M h : Nat} {f : Nat → Int64} {H : Nat → Nat → Int64} (hM : IsMdl T M) (hf : PQ V M f) (hh : HQ V M h H) {n : Nat} {np : Nat → Nat} (hw : PWf f n np) (hs : ¬ f 8 = 0) (hC : ∀ d, d < n → n ≤ 5 → CpOK f n d (np d)) (zd : d < n) : CtI E T l yX4_reason (gw yX4_reason cX4_reason 3 (some .int)) { frames := 7, cells := 0, slots := 0, locals := 190 } [.ref M, .int (nI d)] V (fun (r : Int32) (V' : gV) => r = mRea f n np d ∧ PQ V' M f ∧ HQ V' M h H ∧ KpM V V' M) := by
  refine ctI_of (L := [(0, .ref M), (1, .int (nI d))]) (by decide) rfl (Nat.le_of_ble_eq_true rfl) rfl (fun p e s m args below meth c C => ?_)
  have z6 := hw.2.1
  have zw := hw.2.2 d zd
  refine k_aload_n 0 1 C dX4_reason_0 rfl 0 rfl ?_
  refine k_iload_n 1 2 C dX4_reason_1 rfl 1 rfl ?_
  refine k_callVI 2 5 C [_] [] dX4_reason_2 rfl (ct_X4_points (d := d) (by omega) hM (hf)) mi_X4_points ml_X4_93 im_X4_points se_X4_points ci_X4 (IsMdl.o ‹_›) rfl rfl ⟨Nat.le_of_ble_eq_true rfl, Nat.le_of_ble_eq_true rfl⟩ (Nat.le_of_ble_eq_true rfl) (Nat.zero_le _) (Nat.zero_le _) (fun r2 V2 p2 => ?_)
  obtain ⟨rfl, rfl⟩ := And.intro p2.1.symm p2.2
  refine k_rwI (y := nI (np d)) (by rw [zw.1]; exact lN_i _) ?_
  refine k_if_ne 5 10 8 C dX4_reason_5 (by decide) rfl (fun h5 => ?_) (fun h5 => ?_)
  · have z5 : ¬ np d = 0 := fun zz => h5 (by rw [zz]; rfl)
    refine k_aload_n 10 11 C dX4_reason_10 rfl 0 rfl ?_
    refine k_callVI 11 14 C [] [] dX4_reason_11 rfl (ct_X4_isBlunt hM (hf) hs) mi_X4_isBlunt ml_X4_75 im_X4_isBlunt se_X4_isBlunt ci_X4 (IsMdl.o ‹_›) rfl rfl ⟨Nat.le_of_ble_eq_true rfl, Nat.le_of_ble_eq_true rfl⟩ (Nat.le_of_ble_eq_true rfl) (Nat.zero_le _) (Nat.zero_le _) (fun r11 V11 p11 => ?_)
    obtain ⟨rfl, rfl⟩ := And.intro p11.1.symm p11.2
    refine k_ifb_eq 14 19 17 C dX4_reason_14 (by decide) rfl (fun h14 => ?_) (fun h14 => ?_)
    · refine k_aload_n 19 20 C dX4_reason_19 rfl 0 rfl ?_
      refine k_getF 20 23 C dX4_reason_20 rfl ci_X4 0 fl_X4_7 (IsMdl.o ‹_›) (by decide) (IsMdl.f0 ‹_›) rfl ?_
      refine k_bipush 23 25 C dX4_reason_23 rfl (v := 14) rfl ?_
      refine k_laldP 25 26 C dX4_reason_25 rfl ‹_› (f := f) (hf) (c0 := 14) (by first | omega | (simp only [hdC, ceC]; omega)) ?_
      refine k_ldc2 26 29 C dX4_reason_26 rfl kl_X4_98 ?_
      refine k_lcmp_ne 29 30 35 33 C dX4_reason_29 rfl dX4_reason_30 (by decide) rfl (fun h30 => ?_) (fun h30 => ?_)
      · have z30 : n ≤ 5 := by
          have z7 : ¬ n = 6 := fun zz => h30 (by rw [hw.1, zz]; rfl)
          omega
        refine k_aload_n 35 36 C dX4_reason_35 rfl 0 rfl ?_
        refine k_getF 36 39 C dX4_reason_36 rfl ci_X4 0 fl_X4_7 (IsMdl.o ‹_›) (by decide) (IsMdl.f0 ‹_›) rfl ?_
        refine k_iconst 39 40 C dX4_reason_39 rfl (v := 0) rfl ?_
        refine k_aload_n 40 41 C dX4_reason_40 rfl 0 rfl ?_
        refine k_getF 41 44 C dX4_reason_41 rfl ci_X4 1 fl_X4_13 (IsMdl.o ‹_›) (by decide) (IsMdl.f1 ‹_›) rfl ?_
        refine k_iconst 44 45 C dX4_reason_44 rfl (v := 0) rfl ?_
        refine k_callSV 45 48 C [_, _, _, _] [] dX4_reason_45 rfl (ct_X4_bring hM.a0 hM.a1 (by omega) (by decide) (by decide) (by decide) (by decide)) mi_X4_bring ml_X4_38 st_X4_bring rfl rfl ⟨Nat.le_of_ble_eq_true rfl, Nat.le_of_ble_eq_true rfl⟩ (Nat.le_of_ble_eq_true rfl) (Nat.zero_le _) (Nat.zero_le _) (fun V45 p45 => ?_)
        subst p45
        refine k_aload_n 48 49 C dX4_reason_48 rfl 0 rfl ?_
        refine k_iload_n 49 50 C dX4_reason_49 rfl 1 rfl ?_
        refine k_callVI 50 53 C [_] [] dX4_reason_50 rfl (ct_X4_copies hM (br_pq hf) hw.1 z30 zd zw.1 zw.2 (hC d zd z30)) mi_X4_copies ml_X4_150 im_X4_copies se_X4_copies ci_X4 (IsMdl.o ‹_›) rfl rfl ⟨Nat.le_of_ble_eq_true rfl, Nat.le_of_ble_eq_true rfl⟩ (Nat.le_of_ble_eq_true rfl) (Nat.zero_le _) (Nat.zero_le _) (fun r50 V50 p50 => ?_)
        obtain ⟨zc, rfl⟩ := p50
        refine k_istore_n 53 54 C [(2, _), (0, _), (1, _)] dX4_reason_53 rfl (by decide) rfl ?_
        refine k_aload_n 54 55 C dX4_reason_54 rfl 1 rfl ?_
        refine k_getF 55 58 C dX4_reason_55 rfl ci_X4 1 fl_X4_13 (IsMdl.o ‹_›) (by decide) (IsMdl.f1 ‹_›) rfl ?_
        refine k_iconst 58 59 C dX4_reason_58 rfl (v := 0) rfl ?_
        refine k_aload_n 59 60 C dX4_reason_59 rfl 1 rfl ?_
        refine k_getF 60 63 C dX4_reason_60 rfl ci_X4 0 fl_X4_7 (IsMdl.o ‹_›) (by decide) (IsMdl.f0 ‹_›) rfl ?_
        refine k_iconst 63 64 C dX4_reason_63 rfl (v := 0) rfl ?_
        refine k_callSV 64 67 C [_, _, _, _] [] dX4_reason_64 rfl (ct_X4_bring hM.a1 hM.a0 (by omega) (by decide) (by decide) (by decide) (by decide)) mi_X4_bring ml_X4_38 st_X4_bring rfl rfl ⟨Nat.le_of_ble_eq_true rfl, Nat.le_of_ble_eq_true rfl⟩ (Nat.le_of_ble_eq_true rfl) (Nat.zero_le _) (Nat.zero_le _) (fun V64 p64 => ?_)
        subst p64
        refine k_iload_n 67 68 C dX4_reason_67 rfl 0 rfl ?_
        refine k_ifb_eq 68 75 71 C dX4_reason_68 (by decide) rfl (fun h68 => ?_) (fun h68 => ?_)
        · have zr : mRea f n np d = 4 := by unfold mRea; rw [if_neg z5, if_neg h14, if_neg (by omega), if_neg h68]
          refine k_iconst 75 76 C dX4_reason_75 rfl (v := 4) rfl ?_
          refine k_iret 76 C dX4_reason_76 rfl ?_
          exact ⟨zr.symm, br_back hf hh zc⟩
        · have zr : mRea f n np d = 0 := by unfold mRea; rw [if_neg z5, if_neg h14, if_neg (by omega), if_pos h68]
          refine k_iconst 71 72 C dX4_reason_71 rfl (v := 0) rfl ?_
          refine k_goto 72 76 C dX4_reason_72 (by decide) ?_
          refine k_iret 76 C dX4_reason_76 rfl ?_
          exact ⟨zr.symm, br_back hf hh zc⟩
      · have z30 : n = 6 := by
          rw [hw.1] at h30
          exact (lN_eq (by omega) (by decide)).mp (h30 : lN n = lN 6)
        refine k_iconst 33 34 C dX4_reason_33 rfl (v := 3) rfl ?_
        refine k_iret 34 C dX4_reason_34 rfl ?_
        exact ⟨by unfold mRea; rw [if_neg z5, if_neg h14, if_pos z30], hf, hh, KpM.rf⟩
    · refine k_iconst 17 18 C dX4_reason_17 rfl (v := 2) rfl ?_
      refine k_iret 18 C dX4_reason_18 rfl ?_
      exact ⟨by unfold mRea; rw [if_neg z5, if_pos h14], hf, hh, KpM.rf⟩
  · have z5 : np d = 0 := (nI_eq (b := 0) (by omega) (by decide)).mp h5
    refine k_iconst 8 9 C dX4_reason_8 rfl (v := 1) rfl ?_
    refine k_iret 9 C dX4_reason_9 rfl ?_
    exact ⟨by unfold mRea; rw [if_pos z5], hf, hh, KpM.rf⟩
set_option maxHeartbeats 4000000 in
set_option maxRecDepth 100000 in
theorem ct_X4_why {E : gE} {T : gT} {l : Launch} {V : gV} {i : Int32} {M h : Nat} {f : Nat → Int64} {H : Nat → Nat → Int64} (hM : IsMdl T M) (hf : PQ V M f) (hh : HQ V M h H) {n : Nat} {np : Nat → Nat} (hw : PWf f n np) (hs : ¬ f 8 = 0) (hC : ∀ d, d < n → n ≤ 5 → CpOK f n d (np d)) : CtI E T l yX4_why (gw yX4_why cX4_why 2 (some .int)) { frames := 8, cells := 0, slots := 0, locals := 212 } [.ref M, .int i] V (fun (r : Int32) (V' : gV) => r = mWhy f n np i ∧ PQ V' M f ∧ HQ V' M h H ∧ KpM V V' M) := by
  refine ctI_of (L := [(0, .ref M), (1, .int i)]) (by decide) rfl (Nat.le_of_ble_eq_true rfl) rfl (fun p e s m args below meth c C => ?_)
  have z6 := hw.2.1
  refine k_aload_n 0 1 C dX4_why_0 rfl 0 rfl ?_
  refine k_iload_n 1 2 C dX4_why_1 rfl 1 rfl ?_
  refine k_callVI 2 5 C [_] [] dX4_why_2 rfl (ct_X4_isDrawing hM hf hw) mi_X4_isDrawing ml_X4_89 im_X4_isDrawing se_X4_isDrawing ci_X4 (IsMdl.o ‹_›) rfl rfl ⟨Nat.le_of_ble_eq_true rfl, Nat.le_of_ble_eq_true rfl⟩ (Nat.le_of_ble_eq_true rfl) (Nat.zero_le _) (Nat.zero_le _) (fun r2 V2 p2 => ?_)
  obtain ⟨rfl, rfl⟩ := And.intro p2.1.symm p2.2
  refine k_ifb_eq 5 16 8 C dX4_why_5 (by decide) rfl (fun h5 => ?_) (fun h5 => ?_)
  · have ee : mWhy f n np i = -2000000001 := by unfold mWhy; rw [if_neg h5]
    refine k_ldc 16 18 C dX4_why_16 rfl kc_X4_61 ?_
    refine k_iret 18 C dX4_why_18 rfl ?_
    first
      | exact ⟨ee.symm, hf, hh, KpM.rf⟩
      | exact ⟨p10.1.trans ee.symm, p10.2⟩
  · obtain ⟨d, zd, rfl, zc⟩ := inM_n (by omega) h5
    have ee : mWhy f n np (nI d) = mRea f n np d := by unfold mWhy; rw [if_pos h5, zc]
    refine k_aload_n 8 9 C dX4_why_8 rfl 0 rfl ?_
    refine k_iload_n 9 10 C dX4_why_9 rfl 1 rfl ?_
    refine k_callVI 10 13 C [_] [] dX4_why_10 rfl (ct_X4_reason hM hf hh hw hs hC zd) mi_X4_reason ml_X4_153 im_X4_reason se_X4_reason ci_X4 (IsMdl.o ‹_›) rfl rfl ⟨Nat.le_of_ble_eq_true rfl, Nat.le_of_ble_eq_true rfl⟩ (Nat.le_of_ble_eq_true rfl) (Nat.zero_le _) (Nat.zero_le _) (fun r10 V10 p10 => ?_)
    refine k_goto 13 18 C dX4_why_13 (by decide) ?_
    refine k_iret 18 C dX4_why_18 rfl ?_
    first
      | exact ⟨ee.symm, hf, hh, KpM.rf⟩
      | exact ⟨p10.1.trans ee.symm, p10.2⟩
def cyL (g : Nat → Int64) (n : Nat) : Nat → Nat → Int64
  | 0 => g
  | k + 1 => if cyL g n k (ceC n k + 4) = 1 then mlF (cyL g n k) n k else cyL g n k
theorem mlF_o {g : Nat → Int64} {n k j : Nat} (h5 : j ≠ ceC n k + 5) (h6 : j ≠ ceC n k + 6) (h : j < 9 ∨ 13 < j) : mlF g n k j = g j := by
  unfold mlF mlH mlG mlB mlA
  split
  · rw [va_up_ne _ _ (by omega), va_up_ne _ _ (by omega), va_up_ne _ _ (by omega), va_up_ne _ _ h6, va_up_ne _ _ h5]
  · rw [va_up_ne _ _ (by omega)]
theorem cyL_o {g : Nat → Int64} {n j : Nat} (h : j < 9 ∨ 13 < j) : ∀ k, (∀ k2, k2 < k → j ≠ ceC n k2 + 5 ∧ j ≠ ceC n k2 + 6) → cyL g n k j = g j
  | 0, _ => rfl
  | k + 1, z => by
    have z1 := z k (Nat.lt_succ_self k)
    have z2 := cyL_o (g := g) h k (fun k2 hk => z k2 (Nat.lt_succ_of_lt hk))
    unfold cyL
    split
    · rw [mlF_o z1.1 z1.2 h, z2]
    · exact z2
theorem cy_hd {f : Nat → Int64} {n d z k : Nat} (hz : z ≤ 20) : cyL (cpF f n d z) n k (hdC n 0) = lN z := by
  rw [cyL_o (by unfold hdC; omega) k (fun k2 _ => by unfold hdC ceC; omega)]
  unfold cpF
  rw [va_up_self]
  exact nI_l (by omega)
theorem cy_8 {f : Nat → Int64} {n d z k : Nat} : cyL (cpF f n d z) n k 8 = f 8 := by
  rw [cyL_o (by omega) k (fun k2 _ => by unfold ceC; omega), cpF_lo (by omega) (by omega)]
/-- the lines of a copy can be reckoned -/
def CyOK (f : Nat → Int64) (n d z : Nat) : Prop := ∀ k, k < z → cyL (cpF f n d z) n k (ceC n k + 4) = 1 → 1 ≤ k ∧ LnOK (mlA (cyL (cpF f n d z) n k) n k) n k
def mCpy (f : Nat → Int64) (n : Nat) (np : Nat → Nat) (i : Int32) : Int32 × Option (Nat → Int64) := if ¬ inM n i then (-2000000001, none) else if ¬ mRea f n np i.toNatClampNeg = 0 then (-2000000002, none) else (nI n, some (cyL (cpF f n i.toNatClampNeg (np i.toNatClampNeg)) n (np i.toNatClampNeg)))
theorem rea_0 {f : Nat → Int64} {n d : Nat} {np : Nat → Nat} (hn : n ≤ 6) (h : mRea f n np d = 0) : n ≤ 5 := by
  unfold mRea at h
  by_cases e : n = 6
  · exfalso
    split at h
    · exact absurd h (by decide)
    · split at h
      · exact absurd h (by decide)
      · first | exact absurd h (by decide) | (rw [if_pos e] at h; exact absurd h (by decide))
  · omega
set_option maxHeartbeats 4000000 in
set_option maxRecDepth 100000 in
theorem ct_X4_copy {E : gE} {T : gT} {l : Launch} {V : gV} {i : Int32} {M h : Nat} {f : Nat → Int64} {H : Nat → Nat → Int64} (hM : IsMdl T M) (hf : PQ V M f) (hh : HQ V M h H) {n : Nat} {np : Nat → Nat} (hw : PWf f n np) (hs : ¬ f 8 = 0) (hC : ∀ d, d < n → n ≤ 5 → CpOK f n d (np d)) (hY : ∀ d, d < n → mRea f n np d = 0 → CyOK f n d (np d)) : CtI E T l yX4_copy (gw yX4_copy cX4_copy 5 (some .int)) { frames := 8, cells := 0, slots := 0, locals := 212 } [.ref M, .int i] V (fun (r : Int32) (V' : gV) => r = (mCpy f n np i).1 ∧ AfM V V' M f h H (mCpy f n np i).2) := by
  refine ctI_of (L := [(0, .ref M), (1, .int i)]) (by decide) rfl (Nat.le_of_ble_eq_true rfl) rfl (fun p e s m args below meth c C => ?_)
  have z6 := hw.2.1
  have loop44 : ∀ (zf : Nat) (V0 V1 : gV) (d k : Nat), np d - k = zf → (n ≤ 5) → (np d ≤ 20) → (k ≤ np d) → (HQ V0 M (remN h) (keepH f h H)) → (KpM V V0 M) → (mCpy f n np i = (nI n, some (cyL (cpF f n d (np d)) n (np d)))) → (CyOK f n d (np d)) → (Pg V0 V1 M (cyL (cpF f n d (np d)) n k)) → KW E T V1 p l e { frames := 8, cells := 0, slots := 0, locals := 212 } s m args below meth c 5 0 0 (MQ below (va_Qi (fun (r : Int32) (V' : gV) => r = (mCpy f n np i).1 ∧ AfM V V' M f h H (mCpy f n np i).2) (RepS E T) (gA E)) args s 0 0 (gA E)) 44 [(4, .int (nI k)), (3, .int (nI n)), (0, .ref M)] [] := by
    intro zf
    induction zf using Nat.strongRecOn with
    | _ zf ih =>
    intro V0 V1 d k zhf n5 z20 hk y0 k0 ei hy g1
    refine k_iload 44 46 C dX4_copy_44 rfl 0 rfl ?_
    refine k_aload_n 46 47 C dX4_copy_46 rfl 2 rfl ?_
    refine k_iload_n 47 48 C dX4_copy_47 rfl 1 rfl ?_
    refine k_callVI 48 51 C [_] [_] dX4_copy_48 rfl (ct_X4_points (d := n) (by omega) hM (g1.2.2.2)) mi_X4_points ml_X4_93 im_X4_points se_X4_points ci_X4 (IsMdl.o ‹_›) rfl rfl ⟨Nat.le_of_ble_eq_true rfl, Nat.le_of_ble_eq_true rfl⟩ (Nat.le_of_ble_eq_true rfl) (Nat.zero_le _) (Nat.zero_le _) (fun r48 V48 p48 => ?_)
    obtain ⟨rfl, rfl⟩ := And.intro p48.1.symm p48.2
    refine k_rwI (y := nI (np d)) (by rw [cy_hd z20]; exact lN_i _) ?_
    refine k_icmp_ge 51 85 54 C dX4_copy_51 (by decide) rfl (fun h51 => ?_) (fun h51 => ?_)
    · have z9 : k = np d := by
        have z0 : nI (np d) ≤ nI k := h51
        rw [n1k (by omega) (by omega)] at z0; omega
      refine k_iload_n 85 86 C dX4_copy_85 rfl 1 rfl ?_
      refine k_iret 86 C dX4_copy_86 rfl ?_
      rw [ei]
      rw [z9] at g1
      exact ⟨rfl, AfM.of y0 k0 g1⟩
    · have z9 : k < np d := by
        have z0 : ¬ nI (np d) ≤ nI k := h51
        rw [n1k (by omega) (by omega)] at z0; omega
      refine k_aload_n 54 55 C dX4_copy_54 rfl 2 rfl ?_
      refine k_getF 55 58 C dX4_copy_55 rfl ci_X4 0 fl_X4_7 (IsMdl.o ‹_›) (by decide) (IsMdl.f0 ‹_›) rfl ?_
      refine k_iload_n 58 59 C dX4_copy_58 rfl 1 rfl ?_
      refine k_iload 59 61 C dX4_copy_59 rfl 0 rfl ?_
      refine k_callSI 61 64 C [_, _] [_] dX4_copy_61 rfl (ct_X4_cellOf (d := n) (k := k)) mi_X4_cellOf ml_X4_104 st_X4_cellOf rfl rfl ⟨Nat.le_of_ble_eq_true rfl, Nat.le_of_ble_eq_true rfl⟩ (Nat.le_of_ble_eq_true rfl) (Nat.zero_le _) (Nat.zero_le _) (fun r61 V61 p61 => ?_)
      obtain ⟨rfl, rfl⟩ := And.intro p61.1.symm p61.2
      refine k_iconst 64 65 C dX4_copy_64 rfl (v := 4) rfl ?_
      refine k_iadd 65 66 C dX4_copy_65 rfl  ?_
      refine k_rwI (y := nI ((ceC (n) (k)) + (4))) (nI_add (ceC (n) (k)) (4)) ?_
      refine k_laldP 66 67 C dX4_copy_66 rfl ‹_› (f := (cyL (cpF f n d (np d)) n k)) (g1.2.2.2) (c0 := (ceC (n) (k)) + (4)) (by first | omega | (simp only [hdC, ceC]; omega)) ?_
      refine k_lconst 67 68 C dX4_copy_67 rfl (v := 1) rfl ?_
      refine k_lcmp_ne 68 69 79 72 C dX4_copy_68 rfl dX4_copy_69 (by decide) rfl (fun h69 => ?_) (fun h69 => ?_)
      · have z69 : cyL (cpF f n d (np d)) n (k + 1) = cyL (cpF f n d (np d)) n k := if_neg h69
        refine k_iinc 79 82 C [(4, _), (3, _), (0, _)] (nI (k + 1)) dX4_copy_79 rfl 0 rfl (nI_1 (k)) (by decide) rfl ?_
        refine k_goto 82 44 C dX4_copy_82 (by decide) ?_
        exact ih (np d - (k + 1)) (by omega) _ _ d (k + 1) rfl n5 z20 (by omega) y0 k0 ei hy (by rw [z69]; exact g1)
      · have z69 : cyL (cpF f n d (np d)) n (k + 1) = mlF (cyL (cpF f n d (np d)) n k) n k := if_pos h69
        refine k_aload_n 72 73 C dX4_copy_72 rfl 2 rfl ?_
        refine k_iload_n 73 74 C dX4_copy_73 rfl 1 rfl ?_
        refine k_iload 74 76 C dX4_copy_74 rfl 0 rfl ?_
        refine k_callVV 76 79 C [_, _] [] dX4_copy_76 rfl (ct_X4_line (d := n) (k := k) n5 (by omega) (hy k z9 h69).1 (by rw [cy_8]; exact hs) (hy k z9 h69).2 hM (g1.2.2.2)) mi_X4_line ml_X4_156 im_X4_line se_X4_line ci_X4 (IsMdl.o ‹_›) rfl rfl ⟨Nat.le_of_ble_eq_true rfl, Nat.le_of_ble_eq_true rfl⟩ (Nat.le_of_ble_eq_true rfl) (Nat.zero_le _) (Nat.zero_le _) (fun V76 p76 => ?_)
        refine k_iinc 79 82 C [(4, _), (3, _), (0, _)] (nI (k + 1)) dX4_copy_79 rfl 0 rfl (nI_1 (k)) (by decide) rfl ?_
        refine k_goto 82 44 C dX4_copy_82 (by decide) ?_
        exact ih (np d - (k + 1)) (by omega) _ _ d (k + 1) rfl n5 z20 (by omega) y0 k0 ei hy (by rw [z69]; exact (g1).trans p76)
  refine k_aload_n 0 1 C dX4_copy_0 rfl 0 rfl ?_
  refine k_iload_n 1 2 C dX4_copy_1 rfl 1 rfl ?_
  refine k_callVI 2 5 C [_] [] dX4_copy_2 rfl (ct_X4_isDrawing hM hf hw) mi_X4_isDrawing ml_X4_89 im_X4_isDrawing se_X4_isDrawing ci_X4 (IsMdl.o ‹_›) rfl rfl ⟨Nat.le_of_ble_eq_true rfl, Nat.le_of_ble_eq_true rfl⟩ (Nat.le_of_ble_eq_true rfl) (Nat.zero_le _) (Nat.zero_le _) (fun r2 V2 p2 => ?_)
  obtain ⟨rfl, rfl⟩ := And.intro p2.1.symm p2.2
  refine k_ifb_ne 5 11 8 C dX4_copy_5 (by decide) rfl (fun h5 => ?_) (fun h5 => ?_)
  · obtain ⟨d, zd, rfl, zc⟩ := inM_n (by omega) h5
    have zw := hw.2.2 d zd
    refine k_aload_n 11 12 C dX4_copy_11 rfl 0 rfl ?_
    refine k_iload_n 12 13 C dX4_copy_12 rfl 1 rfl ?_
    refine k_callVI 13 16 C [_] [] dX4_copy_13 rfl (ct_X4_reason hM hf hh hw hs hC zd) mi_X4_reason ml_X4_153 im_X4_reason se_X4_reason ci_X4 (IsMdl.o ‹_›) rfl rfl ⟨Nat.le_of_ble_eq_true rfl, Nat.le_of_ble_eq_true rfl⟩ (Nat.le_of_ble_eq_true rfl) (Nat.zero_le _) (Nat.zero_le _) (fun r13 V13 p13 => ?_)
    obtain ⟨rfl, zq, zh, zkq⟩ := p13
    refine k_if_eq 16 22 19 C dX4_copy_16 (by decide) rfl (fun h16 => ?_) (fun h16 => ?_)
    · have ee : mCpy f n np (nI d) = (nI n, some (cyL (cpF f n d (np d)) n (np d))) := by
        unfold mCpy; rw [if_neg (fun zz => zz h5), zc, if_neg (fun zz => zz h16)]
      have z30 : n ≤ 5 := rea_0 z6 h16
      refine k_aload_n 22 23 C dX4_copy_22 rfl 0 rfl ?_
      refine k_callVV 23 26 C [] [] dX4_copy_23 rfl (ct_X4_keep hM zq zh) mi_X4_keep ml_X4_62 im_X4_keep se_X4_keep ci_X4 (IsMdl.o ‹_›) rfl rfl ⟨Nat.le_of_ble_eq_true rfl, Nat.le_of_ble_eq_true rfl⟩ (Nat.le_of_ble_eq_true rfl) (Nat.zero_le _) (Nat.zero_le _) (fun V23 p23 => ?_)
      obtain ⟨q23, y23, k23⟩ := p23
      refine k_aload_n 26 27 C dX4_copy_26 rfl 0 rfl ?_
      refine k_iload_n 27 28 C dX4_copy_27 rfl 1 rfl ?_
      refine k_callVI 28 31 C [_] [] dX4_copy_28 rfl (ct_X4_copies (d := d) (z := np d) hM (q23) hw.1 z30 zd zw.1 zw.2 (hC d zd z30)) mi_X4_copies ml_X4_150 im_X4_copies se_X4_copies ci_X4 (IsMdl.o ‹_›) rfl rfl ⟨Nat.le_of_ble_eq_true rfl, Nat.le_of_ble_eq_true rfl⟩ (Nat.le_of_ble_eq_true rfl) (Nat.zero_le _) (Nat.zero_le _) (fun r28 V28 p28 => ?_)
      obtain ⟨zc8, rfl⟩ := p28
      refine k_istore_n 31 32 C [(2, _), (0, _), (1, _)] dX4_copy_31 rfl (by decide) rfl ?_
      refine k_aload_n 32 33 C dX4_copy_32 rfl 1 rfl ?_
      refine k_bipush 33 35 C dX4_copy_33 rfl (v := 14) rfl ?_
      refine k_callVI 35 38 C [_] [] dX4_copy_35 rfl (ct_X4_of (k := 14) (by first | omega | (simp only [hdC, ceC]; omega)) hM (zc8.2.2.2)) mi_X4_of ml_X4_65 im_X4_of se_X4_of ci_X4 (IsMdl.o ‹_›) rfl rfl ⟨Nat.le_of_ble_eq_true rfl, Nat.le_of_ble_eq_true rfl⟩ (Nat.le_of_ble_eq_true rfl) (Nat.zero_le _) (Nat.zero_le _) (fun r35 V35 p35 => ?_)
      obtain ⟨rfl, rfl⟩ := And.intro p35.1.symm p35.2
      refine k_rwI (y := nI (n + 1)) (by rw [cpF_14, hw.1, lN_1]; exact lN_i _) ?_
      refine k_iconst 38 39 C dX4_copy_38 rfl (v := 1) rfl ?_
      refine k_isub 39 40 C dX4_copy_39 rfl  ?_
      refine k_rwI (y := nI n) (pk_sub (a := n + 1) (b := 1) (by omega)) ?_
      refine k_istore_n 40 41 C [(3, _), (2, _), (0, _), (1, _)] dX4_copy_40 rfl (by decide) rfl ?_
      refine k_iconst 41 42 C dX4_copy_41 rfl (v := 0) rfl ?_
      refine k_istore 42 44 C [(4, _), (3, _), (2, _), (0, _), (1, _)] dX4_copy_42 rfl (by decide) rfl ?_
      refine k_perm [0, 1, 3] (L' := [(4, _), (3, _), (0, _)]) rfl ?_
      exact loop44 _ _ _ d 0 rfl z30 zw.2 (Nat.zero_le _) y23 (zkq.trans k23) ee (hY d zd h16) (((Pg.rf q23)).trans zc8)
    · have ee : mCpy f n np (nI d) = (-2000000002, none) := by
        unfold mCpy; rw [if_neg (fun zz => zz h5), zc, if_pos h16]
      refine k_ldc 19 21 C dX4_copy_19 rfl kc_X4_117 ?_
      refine k_iret 21 C dX4_copy_21 rfl ?_
      rw [ee]
      exact ⟨rfl, ⟨zq, zh⟩, zkq⟩
  · refine k_ldc 8 10 C dX4_copy_8 rfl kc_X4_61 ?_
    refine k_iret 10 C dX4_copy_10 rfl ?_
    have ee : mCpy f n np i = (-2000000001, none) := by
      unfold mCpy; rw [if_pos h5]
    exact ⟨by rw [ee], by rw [ee]; exact AfM.no hf hh⟩
