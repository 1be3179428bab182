abbrev inM (n : Nat) (i : Int32) : Prop := ¬ i < 0 ∧ ¬ nI n ≤ i
theorem inM_n {n : Nat} (hn : n ≤ 100) {i : Int32} (h : inM n i) : ∃ d, d < n ∧ i = nI d ∧ (nI d).toNatClampNeg = d := by
  obtain ⟨d, zd, rfl⟩ := nI_of h.1
  have z1 := h.2
  rw [nI_leI (by omega) zd] at z1
  exact ⟨d, by omega, rfl, nI_clamp zd⟩
def mPnt (f : Nat → Int64) (n : Nat) (np : Nat → Nat) (i x y q : Int32) : Int32 × Option (Nat → Int64) :=
  if ¬ (inM n i ∧ okR x 0 1000 ∧ okR y 0 1000 ∧ okR q 0 1) then (-2000000001, none)
  else if ¬ f (hdC i.toNatClampNeg 1) = -1 ∨ pcp f i n = true then (-2000000002, none)
  else if np i.toNatClampNeg = 20 then (-2000000003, none)
  else (nI (np i.toNatClampNeg), some (adF f i.toNatClampNeg (np i.toNatClampNeg) x y (decide (q = 1 ∧ 0 < np i.toNatClampNeg))))
theorem adF_n {f : Nat → Int64} {d k : Nat} {x y : Int32} {b : Bool} (hp : f (hdC d 0) = lN k) (hd : d ≤ 5) (hk : k < 20) : adF f d k x y b (hdC d 0) = lN (k + 1) := by
  have ne : ∀ j, j ≤ 6 → hdC d 0 ≠ ceC d k + j := fun j hj => by unfold hdC ceC; omega
  have e : adQ f d k x y b (hdC d 0) = lN k := by
    unfold adQ adP
    rw [va_up_ne _ _ (ne 6 (by decide)), va_up_ne _ _ (ne 5 (by decide)), va_up_ne _ _ (ne 4 (by decide)), va_up_ne _ _ (ne 3 (by decide)), va_up_ne _ _ (ne 2 (by decide)), va_up_ne _ _ (ne 1 (by decide)), va_up_ne _ _ (show hdC d 0 ≠ ceC d k from ne 0 (by decide)), hp]
  unfold adF
  rw [va_up_self, e]
  exact lN_1 k
set_option maxHeartbeats 4000000 in
set_option maxRecDepth 100000 in
theorem ct_X4_point {E : gE} {T : gT} {l : Launch} {V : gV} {i x y q : Int32} {M h : Nat} {f : Nat → Int64} {H : Nat → Nat → Int64} (hM : IsMdl T M) (hf : PQ V M f) (hh : HQ V M h H) {n : Nat} {np : Nat → Nat} (hw : PWf f n np) (hL : ∀ d, d < n → 1 ≤ np d → np d < 20 → okR x 0 1000 → okR y 0 1000 → f (hdC d 1) = -1 → LnOK (adP f d (np d) x y 1) d (np d)) : CtI E T l yX4_point (gw yX4_point cX4_point 5 (some .int)) { frames := 6, cells := 0, slots := 0, locals := 163 } [.ref M, .int i, .int x, .int y, .int q] V (fun (r : Int32) (V' : gV) => r = (mPnt f n np i x y q).1 ∧ AfM V V' M f h H (mPnt f n np i x y q).2) := by
  refine ctI_of (L := [(0, .ref M), (1, .int i), (2, .int x), (3, .int y), (4, .int q)]) (by decide) rfl (Nat.le_of_ble_eq_true rfl) rfl (fun p e s m args below meth c C => ?_)
  have z6 := hw.2.1
  refine k_aload_n 0 1 C dX4_point_0 rfl 0 rfl ?_
  refine k_iload_n 1 2 C dX4_point_1 rfl 1 rfl ?_
  refine k_callVI 2 5 C [_] [] dX4_point_2 rfl (ct_X4_isDrawing hM hf hw) mi_X4_isDrawing ml_X4_89 im_X4_isDrawing se_X4_isDrawing ci_X4 (IsMdl.o ‹_›) rfl rfl ⟨Nat.le_of_ble_eq_true rfl, Nat.le_of_ble_eq_true rfl⟩ (Nat.le_of_ble_eq_true rfl) (Nat.zero_le _) (Nat.zero_le _) (fun r2 V2 p2 => ?_)
  obtain ⟨rfl, rfl⟩ := And.intro p2.1.symm p2.2
  refine k_ifb_eq 5 40 8 C dX4_point_5 (by decide) rfl (fun h5 => ?_) (fun h5 => ?_)
  · have ee : mPnt f n np i x y q = (-2000000001, none) := by
      unfold mPnt
      rw [if_pos (fun zz => h5 zz.1)]
    refine k_ldc 40 42 C dX4_point_40 rfl kc_X4_61 ?_
    refine k_iret 42 C dX4_point_42 rfl ?_
    exact ⟨by rw [ee], by rw [ee]; exact AfM.no hf hh⟩
  · obtain ⟨d, zd, rfl, zc⟩ := inM_n (by omega) h5
    have zw := hw.2.2 d zd
    refine k_iload_n 8 9 C dX4_point_8 rfl 2 rfl ?_
    refine k_iconst 9 10 C dX4_point_9 rfl (v := 0) rfl ?_
    refine k_sipush 10 13 C dX4_point_10 rfl (v := 1000) rfl ?_
    refine k_callSI 13 16 C [_, _, _] [] dX4_point_13 rfl ct_X4_in mi_X4_in ml_X4_57 st_X4_in rfl rfl ⟨Nat.le_of_ble_eq_true rfl, Nat.le_of_ble_eq_true rfl⟩ (Nat.le_of_ble_eq_true rfl) (Nat.zero_le _) (Nat.zero_le _) (fun r13 V13 p13 => ?_)
    obtain ⟨rfl, rfl⟩ := And.intro p13.1.symm p13.2
    refine k_ifb_eq 16 40 19 C dX4_point_16 (by decide) rfl (fun h16 => ?_) (fun h16 => ?_)
    · have ee : mPnt f n np (nI d) x y q = (-2000000001, none) := by
        unfold mPnt
        rw [if_pos (fun zz => h16 zz.2.1)]
      refine k_ldc 40 42 C dX4_point_40 rfl kc_X4_61 ?_
      refine k_iret 42 C dX4_point_42 rfl ?_
      exact ⟨by rw [ee], by rw [ee]; exact AfM.no hf hh⟩
    · refine k_iload_n 19 20 C dX4_point_19 rfl 3 rfl ?_
      refine k_iconst 20 21 C dX4_point_20 rfl (v := 0) rfl ?_
      refine k_sipush 21 24 C dX4_point_21 rfl (v := 1000) rfl ?_
      refine k_callSI 24 27 C [_, _, _] [] dX4_point_24 rfl ct_X4_in mi_X4_in ml_X4_57 st_X4_in rfl rfl ⟨Nat.le_of_ble_eq_true rfl, Nat.le_of_ble_eq_true rfl⟩ (Nat.le_of_ble_eq_true rfl) (Nat.zero_le _) (Nat.zero_le _) (fun r24 V24 p24 => ?_)
      obtain ⟨rfl, rfl⟩ := And.intro p24.1.symm p24.2
      refine k_ifb_eq 27 40 30 C dX4_point_27 (by decide) rfl (fun h27 => ?_) (fun h27 => ?_)
      · have ee : mPnt f n np (nI d) x y q = (-2000000001, none) := by
          unfold mPnt
          rw [if_pos (fun zz => h27 zz.2.2.1)]
        refine k_ldc 40 42 C dX4_point_40 rfl kc_X4_61 ?_
        refine k_iret 42 C dX4_point_42 rfl ?_
        exact ⟨by rw [ee], by rw [ee]; exact AfM.no hf hh⟩
      · refine k_iload 30 32 C dX4_point_30 rfl 4 rfl ?_
        refine k_iconst 32 33 C dX4_point_32 rfl (v := 0) rfl ?_
        refine k_iconst 33 34 C dX4_point_33 rfl (v := 1) rfl ?_
        refine k_callSI 34 37 C [_, _, _] [] dX4_point_34 rfl ct_X4_in mi_X4_in ml_X4_57 st_X4_in rfl rfl ⟨Nat.le_of_ble_eq_true rfl, Nat.le_of_ble_eq_true rfl⟩ (Nat.le_of_ble_eq_true rfl) (Nat.zero_le _) (Nat.zero_le _) (fun r34 V34 p34 => ?_)
        obtain ⟨rfl, rfl⟩ := And.intro p34.1.symm p34.2
        refine k_ifb_ne 37 43 40 C dX4_point_37 (by decide) rfl (fun h37 => ?_) (fun h37 => ?_)
        · refine k_aload_n 43 44 C dX4_point_43 rfl 0 rfl ?_
          refine k_getF 44 47 C dX4_point_44 rfl ci_X4 0 fl_X4_7 (IsMdl.o ‹_›) (by decide) (IsMdl.f0 ‹_›) rfl ?_
          refine k_iload_n 47 48 C dX4_point_47 rfl 1 rfl ?_
          refine k_iconst 48 49 C dX4_point_48 rfl (v := 1) rfl ?_
          refine k_callSI 49 52 C [_, _] [_] dX4_point_49 rfl (ct_X4_head (d := d) (k := 1)) mi_X4_head ml_X4_85 st_X4_head rfl rfl ⟨Nat.le_of_ble_eq_true rfl, Nat.le_of_ble_eq_true rfl⟩ (Nat.le_of_ble_eq_true rfl) (Nat.zero_le _) (Nat.zero_le _) (fun r49 V49 p49 => ?_)
          obtain ⟨rfl, rfl⟩ := And.intro p49.1.symm p49.2
          refine k_laldP 52 53 C dX4_point_52 rfl ‹_› (f := f) (hf) (c0 := hdC d 1) (by first | omega | (simp only [hdC, ceC]; omega)) ?_
          refine k_ldc2 53 56 C dX4_point_53 rfl kl_X4_96 ?_
          refine k_lcmp_ne 56 57 68 60 C dX4_point_56 rfl dX4_point_57 (by decide) rfl (fun h57 => ?_) (fun h57 => ?_)
          · refine k_ldc 68 70 C dX4_point_68 rfl kc_X4_117 ?_
            refine k_iret 70 C dX4_point_70 rfl ?_
            have ee : mPnt f n np (nI d) x y q = (-2000000002, none) := by
              unfold mPnt
              rw [if_neg (fun zz => zz ⟨h5, h16, h27, h37⟩), if_pos (by rw [zc]; first | exact Or.inl h57 | exact Or.inr h65)]
            exact ⟨by rw [ee], by rw [ee]; exact AfM.no hf hh⟩
          · refine k_aload_n 60 61 C dX4_point_60 rfl 0 rfl ?_
            refine k_iload_n 61 62 C dX4_point_61 rfl 1 rfl ?_
            refine k_callVI 62 65 C [_] [] dX4_point_62 rfl (ct_X4_isCopied hM hf hw) mi_X4_isCopied ml_X4_114 im_X4_isCopied se_X4_isCopied ci_X4 (IsMdl.o ‹_›) rfl rfl ⟨Nat.le_of_ble_eq_true rfl, Nat.le_of_ble_eq_true rfl⟩ (Nat.le_of_ble_eq_true rfl) (Nat.zero_le _) (Nat.zero_le _) (fun r62 V62 p62 => ?_)
            obtain ⟨rfl, rfl⟩ := And.intro p62.1.symm p62.2
            refine k_ifb_eq 65 71 68 C dX4_point_65 (by decide) rfl (fun h65 => ?_) (fun h65 => ?_)
            · refine k_aload_n 71 72 C dX4_point_71 rfl 0 rfl ?_
              refine k_iload_n 72 73 C dX4_point_72 rfl 1 rfl ?_
              refine k_callVI 73 76 C [_] [] dX4_point_73 rfl (ct_X4_points (show d ≤ 5 by omega) hM hf) mi_X4_points ml_X4_93 im_X4_points se_X4_points ci_X4 (IsMdl.o ‹_›) rfl rfl ⟨Nat.le_of_ble_eq_true rfl, Nat.le_of_ble_eq_true rfl⟩ (Nat.le_of_ble_eq_true rfl) (Nat.zero_le _) (Nat.zero_le _) (fun r73 V73 p73 => ?_)
              obtain ⟨rfl, rfl⟩ := And.intro p73.1.symm p73.2
              refine k_rwI (y := nI (np d)) (by rw [zw.1]; exact lN_i _) ?_
              refine k_bipush 76 78 C dX4_point_76 rfl (v := 20) rfl ?_
              refine k_icmp_ne 78 84 81 C dX4_point_78 (by decide) rfl (fun h78 => ?_) (fun h78 => ?_)
              · have z78 : ¬ np d = 20 := fun zz => h78 (by rw [zz]; rfl)
                refine k_aload_n 84 85 C dX4_point_84 rfl 0 rfl ?_
                refine k_callVV 85 88 C [] [] dX4_point_85 rfl (ct_X4_keep hM hf hh) mi_X4_keep ml_X4_62 im_X4_keep se_X4_keep ci_X4 (IsMdl.o ‹_›) rfl rfl ⟨Nat.le_of_ble_eq_true rfl, Nat.le_of_ble_eq_true rfl⟩ (Nat.le_of_ble_eq_true rfl) (Nat.zero_le _) (Nat.zero_le _) (fun V85 p85 => ?_)
                obtain ⟨q85, y85, k85⟩ := p85
                refine k_aload_n 88 89 C dX4_point_88 rfl 0 rfl ?_
                refine k_iload_n 89 90 C dX4_point_89 rfl 1 rfl ?_
                refine k_iload_n 90 91 C dX4_point_90 rfl 2 rfl ?_
                refine k_iload_n 91 92 C dX4_point_91 rfl 3 rfl ?_
                refine k_iload 92 94 C dX4_point_92 rfl 4 rfl ?_
                refine k_callVV 94 97 C [_, _, _, _] [] dX4_point_94 rfl (ct_X4_adds (show d ≤ 5 by omega) (show np d < 20 by omega) zw.1 hM (q85) (fun z1 => hL d zd z1 (by omega) h16 h27 h57)) mi_X4_adds ml_X4_118 im_X4_adds se_X4_adds ci_X4 (IsMdl.o ‹_›) rfl rfl ⟨Nat.le_of_ble_eq_true rfl, Nat.le_of_ble_eq_true rfl⟩ (Nat.le_of_ble_eq_true rfl) (Nat.zero_le _) (Nat.zero_le _) (fun V94 p94 => ?_)
                refine k_aload_n 97 98 C dX4_point_97 rfl 0 rfl ?_
                refine k_iload_n 98 99 C dX4_point_98 rfl 1 rfl ?_
                refine k_callVI 99 102 C [_] [] dX4_point_99 rfl (ct_X4_points (show d ≤ 5 by omega) hM p94.2.2.2) mi_X4_points ml_X4_93 im_X4_points se_X4_points ci_X4 (IsMdl.o ‹_›) rfl rfl ⟨Nat.le_of_ble_eq_true rfl, Nat.le_of_ble_eq_true rfl⟩ (Nat.le_of_ble_eq_true rfl) (Nat.zero_le _) (Nat.zero_le _) (fun r99 V99 p99 => ?_)
                obtain ⟨rfl, rfl⟩ := And.intro p99.1.symm p99.2
                refine k_rwI (y := nI (np d + 1)) (by rw [adF_n zw.1 (by omega) (by omega)]; exact lN_i _) ?_
                refine k_iconst 102 103 C dX4_point_102 rfl (v := 1) rfl ?_
                refine k_isub 103 104 C dX4_point_103 rfl  ?_
                refine k_rwI (y := nI ((np d + 1) - (1))) (pk_sub (a := np d + 1) (b := 1) (by first | omega | (simp only [hdC, ceC]; omega))) ?_
                refine k_iret 104 C dX4_point_104 rfl ?_
                have ee : mPnt f n np (nI d) x y q = (nI (np d), some (adF f d (np d) x y (decide (q = 1 ∧ 0 < np d)))) := by
                  unfold mPnt
                  rw [if_neg (fun zz => zz ⟨h5, h16, h27, h37⟩), if_neg (by rw [zc]; exact fun zz => by rcases zz with zz | zz; exact zz h57; exact h65 zz), if_neg (by rw [zc]; exact z78), zc]
                exact ⟨by rw [ee]; rfl, by rw [ee]; exact AfM.of y85 k85 (((Pg.rf q85)).trans p94)⟩
              · have z78 : np d = 20 := (nI_eq (by omega) (by decide)).mp (h78 : nI (np d) = nI 20)
                refine k_ldc 81 83 C dX4_point_81 rfl kc_X4_84 ?_
                refine k_iret 83 C dX4_point_83 rfl ?_
                have ee : mPnt f n np (nI d) x y q = (-2000000003, none) := by
                  unfold mPnt
                  rw [if_neg (fun zz => zz ⟨h5, h16, h27, h37⟩), if_neg (by rw [zc]; exact fun zz => by rcases zz with zz | zz; exact zz h57; exact h65 zz), if_pos (by rw [zc]; exact z78)]
                exact ⟨by rw [ee], by rw [ee]; exact AfM.no hf hh⟩
            · refine k_ldc 68 70 C dX4_point_68 rfl kc_X4_117 ?_
              refine k_iret 70 C dX4_point_70 rfl ?_
              have ee : mPnt f n np (nI d) x y q = (-2000000002, none) := by
                unfold mPnt
                rw [if_neg (fun zz => zz ⟨h5, h16, h27, h37⟩), if_pos (by rw [zc]; first | exact Or.inl h57 | exact Or.inr h65)]
              exact ⟨by rw [ee], by rw [ee]; exact AfM.no hf hh⟩
        · have ee : mPnt f n np (nI d) x y q = (-2000000001, none) := by
            unfold mPnt
            rw [if_pos (fun zz => h37 zz.2.2.2)]
          refine k_ldc 40 42 C dX4_point_40 rfl kc_X4_61 ?_
          refine k_iret 42 C dX4_point_42 rfl ?_
          exact ⟨by rw [ee], by rw [ee]; exact AfM.no hf hh⟩
def shN (f : Nat → Int64) (i ax : Nat) : Int64 := rdN (aimA f ax (f (hdC i (6 + 2 * ax))) (f (hdC i (6 + 2 * ax) + 1))) (aimB f (f (hdC i (6 + 2 * ax) + 1)))
def shD (f : Nat → Int64) (i ax : Nat) : Int64 := rdD (aimA f ax (f (hdC i (6 + 2 * ax))) (f (hdC i (6 + 2 * ax) + 1))) (aimB f (f (hdC i (6 + 2 * ax) + 1)))
def shF (f : Nat → Int64) (i w ax : Nat) : Nat → Int64 := va_up (va_up f (hdC w (6 + 2 * ax)) (shN f i ax)) (hdC w (6 + 2 * ax) + 1) (shD f i ax)
set_option maxHeartbeats 4000000 in
set_option maxRecDepth 100000 in
theorem ct_X4_shift {E : gE} {T : gT} {l : Launch} {V : gV} {i w ax M : Nat} {f : Nat → Int64} (hi : i ≤ 5) (hw : w ≤ 5) (hax : ax < 2) (hM : IsMdl T M) (hf : PQ V M f) : CtV E T l yX4_shift (gw yX4_shift cX4_shift 5 none) { frames := 4, cells := 0, slots := 0, locals := 103 } [.ref M, .int (nI i), .int (nI w), .int (nI ax)] V (fun (V' : gV) => Pg V V' M (shF f i w ax)) := by
  refine ctV_of (L := [(0, .ref M), (1, .int (nI i)), (2, .int (nI w)), (3, .int (nI ax))]) (by decide) rfl (Nat.le_of_ble_eq_true rfl) rfl (fun p e s m args below meth c C => ?_)
  refine k_iload_n 0 1 C dX4_shift_0 rfl 1 rfl ?_
  refine k_bipush 1 3 C dX4_shift_1 rfl (v := 6) rfl ?_
  refine k_iconst 3 4 C dX4_shift_3 rfl (v := 2) rfl ?_
  refine k_iload_n 4 5 C dX4_shift_4 rfl 3 rfl ?_
  refine k_imul 5 6 C dX4_shift_5 rfl  ?_
  refine k_rwI (y := nI (2 * ax)) (pk_mul (2) (ax)) ?_
  refine k_iadd 6 7 C dX4_shift_6 rfl  ?_
  refine k_rwI (y := nI ((6) + (2 * ax))) (nI_add (6) (2 * ax)) ?_
  refine k_callSI 7 10 C [_, _] [] dX4_shift_7 rfl (ct_X4_head (d := i) (k := (6) + (2 * ax))) mi_X4_head ml_X4_85 st_X4_head rfl rfl ⟨Nat.le_of_ble_eq_true rfl, Nat.le_of_ble_eq_true rfl⟩ (Nat.le_of_ble_eq_true rfl) (Nat.zero_le _) (Nat.zero_le _) (fun r7 V7 p7 => ?_)
  obtain ⟨rfl, rfl⟩ := And.intro p7.1.symm p7.2
  refine k_istore 10 12 C [(4, _), (0, _), (1, _), (2, _), (3, _)] dX4_shift_10 rfl (by decide) rfl ?_
  refine k_aload_n 12 13 C dX4_shift_12 rfl 1 rfl ?_
  refine k_iload_n 13 14 C dX4_shift_13 rfl 4 rfl ?_
  refine k_aload_n 14 15 C dX4_shift_14 rfl 1 rfl ?_
  refine k_getF 15 18 C dX4_shift_15 rfl ci_X4 0 fl_X4_7 (IsMdl.o ‹_›) (by decide) (IsMdl.f0 ‹_›) rfl ?_
  refine k_iload 18 20 C dX4_shift_18 rfl 0 rfl ?_
  refine k_laldP 20 21 C dX4_shift_20 rfl ‹_› (f := f) (hf) (c0 := hdC (i) ((6) + (2 * ax))) (by first | omega | (simp only [hdC, ceC]; omega)) ?_
  refine k_aload_n 21 22 C dX4_shift_21 rfl 1 rfl ?_
  refine k_getF 22 25 C dX4_shift_22 rfl ci_X4 0 fl_X4_7 (IsMdl.o ‹_›) (by decide) (IsMdl.f0 ‹_›) rfl ?_
  refine k_iload 25 27 C dX4_shift_25 rfl 0 rfl ?_
  refine k_iconst 27 28 C dX4_shift_27 rfl (v := 1) rfl ?_
  refine k_iadd 28 29 C dX4_shift_28 rfl  ?_
  refine k_rwI (y := nI ((hdC (i) ((6) + (2 * ax))) + (1))) (nI_add (hdC (i) ((6) + (2 * ax))) (1)) ?_
  refine k_laldP 29 30 C dX4_shift_29 rfl ‹_› (f := f) (hf) (c0 := (hdC (i) ((6) + (2 * ax))) + (1)) (by first | omega | (simp only [hdC, ceC]; omega)) ?_
  refine k_callVV 30 33 C [_, _, _] [] dX4_shift_30 rfl (ct_X4_aim hax hM (hf)) mi_X4_aim ml_X4_127 im_X4_aim se_X4_aim ci_X4 (IsMdl.o ‹_›) rfl rfl ⟨Nat.le_of_ble_eq_true rfl, Nat.le_of_ble_eq_true rfl⟩ (Nat.le_of_ble_eq_true rfl) (Nat.zero_le _) (Nat.zero_le _) (fun V30 p30 => ?_)
  obtain ⟨g30, t30, u30⟩ := tl_all p30 (hf)
  refine k_aload_n 33 34 C dX4_shift_33 rfl 1 rfl ?_
  refine k_iload_n 34 35 C dX4_shift_34 rfl 3 rfl ?_
  refine k_bipush 35 37 C dX4_shift_35 rfl (v := 6) rfl ?_
  refine k_iconst 37 38 C dX4_shift_37 rfl (v := 2) rfl ?_
  refine k_iload_n 38 39 C dX4_shift_38 rfl 4 rfl ?_
  refine k_imul 39 40 C dX4_shift_39 rfl  ?_
  refine k_rwI (y := nI (2 * ax)) (pk_mul (2) (ax)) ?_
  refine k_iadd 40 41 C dX4_shift_40 rfl  ?_
  refine k_rwI (y := nI ((6) + (2 * ax))) (nI_add (6) (2 * ax)) ?_
  refine k_callSI 41 44 C [_, _] [_] dX4_shift_41 rfl (ct_X4_head (d := w) (k := (6) + (2 * ax))) mi_X4_head ml_X4_85 st_X4_head rfl rfl ⟨Nat.le_of_ble_eq_true rfl, Nat.le_of_ble_eq_true rfl⟩ (Nat.le_of_ble_eq_true rfl) (Nat.zero_le _) (Nat.zero_le _) (fun r41 V41 p41 => ?_)
  obtain ⟨rfl, rfl⟩ := And.intro p41.1.symm p41.2
  refine k_callVV 44 47 C [_] [] dX4_shift_44 rfl (ct_X4_put (k := hdC (w) ((6) + (2 * ax))) (by first | omega | (simp only [hdC, ceC]; omega)) t30 u30 hM) mi_X4_put ml_X4_134 im_X4_put se_X4_put ci_X4 (IsMdl.o ‹_›) rfl rfl ⟨Nat.le_of_ble_eq_true rfl, Nat.le_of_ble_eq_true rfl⟩ (Nat.le_of_ble_eq_true rfl) (Nat.zero_le _) (Nat.zero_le _) (fun V44 p44 => ?_)
  have g44 := put_all p44 (g30.2.2.2)
  refine k_vret 47 C dX4_shift_47 rfl ?_
  exact ((Pg.rf hf).trans g30).trans g44
