theorem vL_at {d : Dr} {i : Nat} (hn : rn d ≤ 20) (hi : i < rn d) : vL d (nI i) = rl d i := by
  unfold vL; rw [if_pos ⟨nI_pos (by omega), by rw [n20 hn (by omega)]; omega⟩, nI_clamp (by omega)]
theorem vX_at {d : Dr} {i : Nat} (hn : rn d ≤ 20) (hi : i < rn d) : vX d (nI i) = rX d i := by
  unfold vX; rw [if_pos ⟨nI_pos (by omega), by rw [n20 hn (by omega)]; omega⟩, nI_clamp (by omega)]
theorem vY_at {d : Dr} {i : Nat} (hn : rn d ≤ 20) (hi : i < rn d) : vY d (nI i) = rY d i := by
  unfold vY; rw [if_pos ⟨nI_pos (by omega), by rw [n20 hn (by omega)]; omega⟩, nI_clamp (by omega)]
theorem dW_join {d : Dr} {i : Nat} (hn : rn d ≤ 20) (hi : i < rn d) (hw : dW d) (h : ¬ vL d (nI i) = -1) : 0 < i := by
  rcases Nat.eq_zero_or_pos i with z | z
  · subst z; rw [vL_at hn hi] at h; exact absurd (hw hi) h
  · exact z
theorem dW_line {d : Dr} {i : Nat} {v : Int32} (hw : dW d) (hi : 0 < i) : dW (dLine d i v) := by
  intro h
  show va_up (rl d) i v 0 = -1
  rw [va_up_ne _ _ (by omega)]
  exact hw h
theorem lnS_n (S : Dk) (d : Dr) (i : Nat) : kn (lnS S d i) = kn S ∧ ks (lnS S d i) = ks S ∧ kdr (lnS S d i) = kdr S := by
  unfold lnS; split
  · exact ⟨rfl, rfl, rfl⟩
  · split <;> exact ⟨rfl, rfl, rfl⟩
theorem lnD_n (S : Dk) (d : Dr) (i : Nat) : rn (lnD S d i) = rn d := by
  unfold lnD; split
  · rfl
  · split <;> rfl
theorem lnD_w {S : Dk} {d : Dr} {i : Nat} (hn : rn d ≤ 20) (hi : i < rn d) (hw : dW d) : dW (lnD S d i) := by
  unfold lnD; split
  · exact hw
  · next h => split
              · exact hw
              · exact dW_line hw (dW_join hn hi hw h)
theorem lnAll_n (S : Dk) (d : Dr) : ∀ i, kn (lnAll S d i).1 = kn S ∧ rn (lnAll S d i).2 = rn d
  | 0 => ⟨rfl, rfl⟩
  | i + 1 => ⟨(lnS_n _ _ i).1.trans (lnAll_n S d i).1, (lnD_n _ _ i).trans (lnAll_n S d i).2⟩
def trP (S : Dk) (d : Dr) : Int64 := (ks S 1).toInt64 * (rpt d * (kf S 1).toInt64)
def trX (S : Dk) (d : Dr) : Nat → Int64
  | 0 => sAim S (vX d (nI 0)) (rpt d) (kf S 2) (sgX S)
  | i + 1 => if vL d (nI (i + 1)) = -1 then sAim S (vX d (nI (i + 1))) (rpt d) (kf S 2) (sgX S) else sFol (trX S d i) (sAim S (vX d (nI (i + 1))) (rpt d) (kf S 2) (sgX S)) (trP S d)
def trY (S : Dk) (d : Dr) : Nat → Int64
  | 0 => sAim S (vY d (nI 0)) (rpt d) (kf S 3) (sgY S)
  | i + 1 => if vL d (nI (i + 1)) = -1 then sAim S (vY d (nI (i + 1))) (rpt d) (kf S 3) (sgY S) else sFol (trY S d i) (sAim S (vY d (nI (i + 1))) (rpt d) (kf S 3) (sgY S)) (trP S d)
def trL (d : Dr) (i : Nat) : Int32 := if i = 0 then -1 else if vL d (nI i) = -1 then -1 else 0
/-- the copy that is traced -/
def trD (S : Dk) (num : Int32) (d : Dr) : Dr := (num, rsc d * (kf S 0).toInt64, rpt d * (kf S 1).toInt64, rsx d * sgX S, rsy d * sgY S, sAim S (rhx d) (rpt d) (kf S 2) (sgX S), sAim S (rhy d) (rpt d) (kf S 3) (sgY S), rn d, trX S d, trY S d, trL d)
theorem trX_u {S : Dk} {d : Dr} {i : Nat} (h : vL d (nI i) = -1) : trX S d i = sAim S (vX d (nI i)) (rpt d) (kf S 2) (sgX S) := by
  cases i with
  | zero => rfl
  | succ k => simp only [trX]; rw [if_pos h]
theorem trY_u {S : Dk} {d : Dr} {i : Nat} (h : vL d (nI i) = -1) : trY S d i = sAim S (vY d (nI i)) (rpt d) (kf S 3) (sgY S) := by
  cases i with
  | zero => rfl
  | succ k => simp only [trY]; rw [if_pos h]
theorem trX_j {S : Dk} {d : Dr} {i : Nat} (h : ¬ vL d (nI i) = -1) (hi : 0 < i) : trX S d i = sFol (trX S d (i - 1)) (sAim S (vX d (nI i)) (rpt d) (kf S 2) (sgX S)) (trP S d) := by
  cases i with
  | zero => omega
  | succ k => simp only [trX]; rw [if_neg h]; rfl
theorem trY_j {S : Dk} {d : Dr} {i : Nat} (h : ¬ vL d (nI i) = -1) (hi : 0 < i) : trY S d i = sFol (trY S d (i - 1)) (sAim S (vY d (nI i)) (rpt d) (kf S 3) (sgY S)) (trP S d) := by
  cases i with
  | zero => omega
  | succ k => simp only [trY]; rw [if_neg h]; rfl
theorem pred_at {t : Dr} {i : Nat} (hi : 0 < i) (h20 : i ≤ 20) : vX (dTake t i) (nI i - 1) = rX t (i - 1) ∧ vY (dTake t i) (nI i - 1) = rY t (i - 1) := by
  have e : nI i - 1 = nI (i - 1) := by
    have := pk_sub (a := i) (b := 1) (by omega)
    exact this
  rw [e]
  exact ⟨vX_at (d := dTake t i) (by show i ≤ 20; omega) (by show i - 1 < i; omega), vY_at (d := dTake t i) (by show i ≤ 20; omega) (by show i - 1 < i; omega)⟩
theorem take_step {V1 : gV} {a : Nat} {t : Dr} {i : Nat} {x y : Int64} {l : Int32} (hx : x = rX t i) (hy : y = rY t i) (hl : (if i = 0 then -1 else l) = rl t i) (h : DV V1 a (dAdd (dTake t i) x y l)) : DV V1 a (dTake t (i + 1)) := by
  subst hx; subst hy
  refine h.to rfl rfl rfl rfl rfl rfl rfl rfl (fun k hk => ?_)
  have hk' : k < i + 1 := hk
  by_cases e : k = i
  · subst e
    refine ⟨?_, ?_, ?_⟩
    · show va_up _ k _ k = _; rw [va_up_self]; rfl
    · show va_up _ k _ k = _; rw [va_up_self]; rfl
    · show va_up _ k (if k = 0 then -1 else l) k = _; rw [va_up_self]; exact hl
  · refine ⟨?_, ?_, ?_⟩
    · show va_up _ i _ k = _; rw [va_up_ne _ _ e]; rfl
    · show va_up _ i _ k = _; rw [va_up_ne _ _ e]; rfl
    · show va_up _ i _ k = _; rw [va_up_ne _ _ e]; rfl
def rsn (S : Dk) (num : Int32) (d : Dr) : Int32 := if rn d < 1 then 1 else if ¬ sWorn S ≤ 9 then 2 else if ¬ kn S < 6 then 3 else if tooF (trD S num d) = true then 4 else 0
set_option maxHeartbeats 4000000 in
set_option maxRecDepth 100000 in
theorem ct_X0_drawLine {E : gE} {T : gT} {l : Launch} {V : gV} {i : Nat} {D a : Nat} {S : Dk} {π : Nat → Nat} {d : Dr} (hD : IsDsk T D) (hk : DK V D S π) (hn : kn S < 6) (hae : a = D + 3 + 4 * π (kn S)) (hd : DV V a d) (hi : i < rn d) : CtV E T l yX0_drawLine (gw yX0_drawLine cX0_drawLine 4 none) { frames := 3, cells := 0, slots := 0, locals := 68 } [.ref D, .ref a, .int (nI i)] V (fun (V' : gV) => DK V' D (lnS S d i) π ∧ DV V' a (lnD S d i) ∧ Off V V' D (D + 27)) := by
  refine ctV_of (L := [(0, .ref D), (1, .ref a), (2, .int (nI i))]) (by decide) rfl (Nat.le_of_ble_eq_true rfl) rfl (fun p e s m args below meth c C => ?_)
  have hp6 := hk.p _ hn
  have ha : IsDrw T a := by rw [hae]; exact hD.d _ hp6
  refine k_aload_n 0 1 C dX0_drawLine_0 rfl 1 rfl ?_
  refine k_iload_n 1 2 C dX0_drawLine_1 rfl 2 rfl ?_
  refine k_callVI 2 5 C [_] [] dX0_drawLine_2 rfl (ct_X1_isJoined ha hd) mi_X1_isJoined ml_X0_107 im_X1_isJoined se_X1_isJoined ci_X1 (IsDrw.o ha) rfl rfl ⟨Nat.le_of_ble_eq_true rfl, Nat.le_of_ble_eq_true rfl⟩ (Nat.le_of_ble_eq_true rfl) (Nat.zero_le _) (Nat.zero_le _) (fun r2 V2 p2 => ?_)
  obtain ⟨rfl, rfl⟩ := And.intro p2.1.symm p2.2
  refine k_ifb_ne 5 9 8 C dX0_drawLine_5 (by decide) rfl (fun h5 => ?_) (fun h5 => ?_)
  · refine k_aload_n 9 10 C dX0_drawLine_9 rfl 0 rfl ?_
    refine k_aload_n 10 11 C dX0_drawLine_10 rfl 1 rfl ?_
    refine k_iload_n 11 12 C dX0_drawLine_11 rfl 2 rfl ?_
    refine k_iconst 12 13 C dX0_drawLine_12 rfl (v := 1) rfl ?_
    refine k_isub 13 14 C dX0_drawLine_13 rfl  ?_
    refine k_callVI 14 17 C [_, _] [] dX0_drawLine_14 rfl (ct_X0_isOnBoard hD hk ha hd) mi_X0_isOnBoard ml_X0_95 im_X0_isOnBoard se_X0_isOnBoard ci_X0 (IsDsk.o ‹_›) rfl rfl ⟨Nat.le_of_ble_eq_true rfl, Nat.le_of_ble_eq_true rfl⟩ (Nat.le_of_ble_eq_true rfl) (Nat.zero_le _) (Nat.zero_le _) (fun r14 V14 p14 => ?_)
    obtain ⟨rfl, rfl⟩ := And.intro p14.1.symm p14.2
    refine k_ifb_eq 17 29 20 C dX0_drawLine_17 (by decide) rfl (fun h17 => ?_) (fun h17 => ?_)
    · refine k_aload_n 29 30 C dX0_drawLine_29 rfl 0 rfl ?_
      refine k_dup 30 31 C dX0_drawLine_30 rfl rfl ?_
      refine k_get 31 34 C dX0_drawLine_31 rfl ci_X0 9 fl_X0_43 (IsDsk.o ‹_›) (by decide) rfl ?_
      refine k_rwI (hk.f 9 (by decide) (by decide)) ?_
      refine k_iconst 34 35 C dX0_drawLine_34 rfl (v := 1) rfl ?_
      refine k_iadd 35 36 C dX0_drawLine_35 rfl  ?_
      refine k_put 36 39 C dX0_drawLine_36 rfl ci_X0 9 fl_X0_43 (IsDsk.o ‹_›) (by decide) rfl rfl rfl wI_off (ps_0_9 _ _ _ _) ?_
      have zo : Off V (wI V D 9 (kf S 9 + 1)) D (D + 1) := Off.rf.wI (Nat.le_refl D) (by omega)
      refine k_vret 39 C dX0_drawLine_39 rfl ?_
      have zb : ¬ (onB S d (nI i - 1) = true ∧ onB S d (nI i) = true) := by first | exact fun z => h17 z.1 | exact fun z => h26 z.2
      exact ⟨by simp only [lnS]; rw [if_neg h5, if_pos zb]; exact hk.fld (by decide), by simp only [lnD]; rw [if_neg h5, if_pos zb]; exact hd.off zo (by omega), zo.wide (Nat.le_refl D) (by omega)⟩
    · refine k_aload_n 20 21 C dX0_drawLine_20 rfl 0 rfl ?_
      refine k_aload_n 21 22 C dX0_drawLine_21 rfl 1 rfl ?_
      refine k_iload_n 22 23 C dX0_drawLine_22 rfl 2 rfl ?_
      refine k_callVI 23 26 C [_, _] [] dX0_drawLine_23 rfl (ct_X0_isOnBoard hD hk ha hd) mi_X0_isOnBoard ml_X0_95 im_X0_isOnBoard se_X0_isOnBoard ci_X0 (IsDsk.o ‹_›) rfl rfl ⟨Nat.le_of_ble_eq_true rfl, Nat.le_of_ble_eq_true rfl⟩ (Nat.le_of_ble_eq_true rfl) (Nat.zero_le _) (Nat.zero_le _) (fun r23 V23 p23 => ?_)
      obtain ⟨rfl, rfl⟩ := And.intro p23.1.symm p23.2
      refine k_ifb_ne 26 40 29 C dX0_drawLine_26 (by decide) rfl (fun h26 => ?_) (fun h26 => ?_)
      · refine k_aload_n 40 41 C dX0_drawLine_40 rfl 1 rfl ?_
        refine k_iload_n 41 42 C dX0_drawLine_41 rfl 2 rfl ?_
        refine k_callVI 42 45 C [_] [] dX0_drawLine_42 rfl (ct_X1_lineLength ha hd) mi_X1_lineLength ml_X0_111 im_X1_lineLength se_X1_lineLength ci_X1 (IsDrw.o ha) rfl rfl ⟨Nat.le_of_ble_eq_true rfl, Nat.le_of_ble_eq_true rfl⟩ (Nat.le_of_ble_eq_true rfl) (Nat.zero_le _) (Nat.zero_le _) (fun r42 V42 p42 => ?_)
        obtain ⟨rfl, rfl⟩ := And.intro p42.1.symm p42.2
        refine k_istore_n 45 46 C [(3, _), (0, _), (1, _), (2, _)] dX0_drawLine_45 rfl (by decide) rfl ?_
        refine k_aload_n 46 47 C dX0_drawLine_46 rfl 2 rfl ?_
        refine k_iload_n 47 48 C dX0_drawLine_47 rfl 3 rfl ?_
        refine k_aload_n 48 49 C dX0_drawLine_48 rfl 1 rfl ?_
        refine k_callVI 49 52 C [] [_, _] dX0_drawLine_49 rfl (ct_X0_wornWidth hD hk) mi_X0_wornWidth ml_X0_103 im_X0_wornWidth se_X0_wornWidth ci_X0 (IsDsk.o ‹_›) rfl rfl ⟨Nat.le_of_ble_eq_true rfl, Nat.le_of_ble_eq_true rfl⟩ (Nat.le_of_ble_eq_true rfl) (Nat.zero_le _) (Nat.zero_le _) (fun r49 V49 p49 => ?_)
        obtain ⟨rfl, rfl⟩ := And.intro p49.1.symm p49.2
        refine k_bipush 52 54 C dX0_drawLine_52 rfl (v := 9) rfl ?_
        refine k_min 54 57 C dX0_drawLine_54 rfl ml_X0_114 (Nat.le_of_ble_eq_true rfl) (Nat.le_of_ble_eq_true rfl) (Nat.zero_le _) (Nat.zero_le _) ?_
        refine k_callVV 57 60 C [_, _] [] dX0_drawLine_57 rfl (ct_X1_changeLine ha hd hi) mi_X1_changeLine ml_X0_120 im_X1_changeLine se_X1_changeLine ci_X1 (IsDrw.o ha) rfl rfl ⟨Nat.le_of_ble_eq_true rfl, Nat.le_of_ble_eq_true rfl⟩ (Nat.le_of_ble_eq_true rfl) (Nat.zero_le _) (Nat.zero_le _) (fun V57 p57 => ?_)
        obtain ⟨z1, z2⟩ := p57
        have zk := hk.spare hn (Nat.le_refl _) (by rw [← hae]; exact z2)
        refine k_aload_n 60 61 C dX0_drawLine_60 rfl 1 rfl ?_
        refine k_dup 61 62 C dX0_drawLine_61 rfl rfl ?_
        refine k_get 62 65 C dX0_drawLine_62 rfl ci_X0 5 fl_X0_31 (IsDsk.o ‹_›) (by decide) rfl ?_
        refine k_rwI (zk.f 5 (by decide) (by decide)) ?_
        refine k_iload_n 65 66 C dX0_drawLine_65 rfl 0 rfl ?_
        refine k_iadd 66 67 C dX0_drawLine_66 rfl  ?_
        refine k_put 67 70 C dX0_drawLine_67 rfl ci_X0 5 fl_X0_31 (IsDsk.o ‹_›) (by decide) rfl rfl rfl wI_off (ps_0_5 _ _ _ _) ?_
        have zk1 := zk.fld (j := 5) (x := kf S 5 + vLen d (nI i)) (by decide)
        refine k_aload_n 70 71 C dX0_drawLine_70 rfl 1 rfl ?_
        refine k_dup 71 72 C dX0_drawLine_71 rfl rfl ?_
        refine k_get 72 75 C dX0_drawLine_72 rfl ci_X0 7 fl_X0_37 (IsDsk.o ‹_›) (by decide) rfl ?_
        refine k_rwI (y := kf S 7) (zk1.f 7 (by decide) (by decide)) ?_
        refine k_iconst 75 76 C dX0_drawLine_75 rfl (v := 1) rfl ?_
        refine k_iadd 76 77 C dX0_drawLine_76 rfl  ?_
        refine k_put 77 80 C dX0_drawLine_77 rfl ci_X0 7 fl_X0_37 (IsDsk.o ‹_›) (by decide) rfl rfl rfl wI_off (ps_0_7 _ _ _ _) ?_
        have zk2 := zk1.fld (j := 7) (x := kf S 7 + 1) (by decide)
        refine k_aload_n 80 81 C dX0_drawLine_80 rfl 1 rfl ?_
        refine k_dup 81 82 C dX0_drawLine_81 rfl rfl ?_
        refine k_get 82 85 C dX0_drawLine_82 rfl ci_X0 8 fl_X0_40 (IsDsk.o ‹_›) (by decide) rfl ?_
        refine k_rwI (y := kf S 8) (zk2.f 8 (by decide) (by decide)) ?_
        refine k_iload_n 85 86 C dX0_drawLine_85 rfl 0 rfl ?_
        refine k_iadd 86 87 C dX0_drawLine_86 rfl  ?_
        refine k_put 87 90 C dX0_drawLine_87 rfl ci_X0 8 fl_X0_40 (IsDsk.o ‹_›) (by decide) rfl rfl rfl wI_off (ps_0_8 _ _ _ _) ?_
        have zk3 := zk2.fld (j := 8) (x := kf S 8 + vLen d (nI i)) (by decide)
        refine k_vret 90 C dX0_drawLine_90 rfl ?_
        have zb : ¬ ¬ (onB S d (nI i - 1) = true ∧ onB S d (nI i) = true) := fun z => z ⟨h17, h26⟩
        have zo : Off V57 (wI (wI (wI V57 D 5 (kf S 5 + vLen d (nI i))) D 7 (kf S 7 + 1)) D 8 (kf S 8 + vLen d (nI i))) D (D + 1) := ((Off.rf.wI (Nat.le_refl D) (by omega)).wI (Nat.le_refl D) (by omega)).wI (Nat.le_refl D) (by omega)
        exact ⟨by simp only [lnS]; rw [if_neg h5, if_neg zb]; exact zk3, by simp only [lnD]; rw [if_neg h5, if_neg zb]; exact z1.off zo (by omega), (z2.wide (by omega) (by omega)).trans (zo.wide (Nat.le_refl D) (by omega))⟩
      · refine k_aload_n 29 30 C dX0_drawLine_29 rfl 0 rfl ?_
        refine k_dup 30 31 C dX0_drawLine_30 rfl rfl ?_
        refine k_get 31 34 C dX0_drawLine_31 rfl ci_X0 9 fl_X0_43 (IsDsk.o ‹_›) (by decide) rfl ?_
        refine k_rwI (hk.f 9 (by decide) (by decide)) ?_
        refine k_iconst 34 35 C dX0_drawLine_34 rfl (v := 1) rfl ?_
        refine k_iadd 35 36 C dX0_drawLine_35 rfl  ?_
        refine k_put 36 39 C dX0_drawLine_36 rfl ci_X0 9 fl_X0_43 (IsDsk.o ‹_›) (by decide) rfl rfl rfl wI_off (ps_0_9 _ _ _ _) ?_
        have zo : Off V (wI V D 9 (kf S 9 + 1)) D (D + 1) := Off.rf.wI (Nat.le_refl D) (by omega)
        refine k_vret 39 C dX0_drawLine_39 rfl ?_
        have zb : ¬ (onB S d (nI i - 1) = true ∧ onB S d (nI i) = true) := by first | exact fun z => h17 z.1 | exact fun z => h26 z.2
        exact ⟨by simp only [lnS]; rw [if_neg h5, if_pos zb]; exact hk.fld (by decide), by simp only [lnD]; rw [if_neg h5, if_pos zb]; exact hd.off zo (by omega), zo.wide (Nat.le_refl D) (by omega)⟩
  · refine k_vret 8 C dX0_drawLine_8 rfl ?_
    exact ⟨by simp only [lnS]; rw [if_pos (Classical.not_not.mp h5)]; exact hk, by simp only [lnD]; rw [if_pos (Classical.not_not.mp h5)]; exact hd, Off.rf⟩
set_option maxHeartbeats 4000000 in
set_option maxRecDepth 100000 in
theorem ct_X0_keepTraced {E : gE} {T : gT} {l : Launch} {V : gV} {D : Nat} {S : Dk} {π : Nat → Nat} (hD : IsDsk T D) (hk : DK V D S π) {d : Dr} (hn : kn S < 6) (hd : DV V (D + 3 + 4 * π (kn S)) d) (hw : dW d) : CtI E T l yX0_keepTraced (gw yX0_keepTraced cX0_keepTraced 3 (some .int)) { frames := 4, cells := 0, slots := 0, locals := 91 } [.ref D] V (fun (r : Int32) (V' : gV) => r = nI (kn S) ∧ DK V' D (kf (lnAll S d (rn d)).1, ks (lnAll S d (rn d)).1, kn (lnAll S d (rn d)).1 + 1, va_up (kdr (lnAll S d (rn d)).1) (kn (lnAll S d (rn d)).1) (lnAll S d (rn d)).2) π ∧ Off V V' D (D + 27)) := by
  refine ctI_of (L := [(0, .ref D)]) (by decide) rfl (Nat.le_of_ble_eq_true rfl) rfl (fun p e s m args below meth c C => ?_)
  have zp := hk.p _ hn
  have zq := hD.d _ zp
  have zd20 := hd.le
  have loop13 : ∀ (f : Nat) (V1 : gV) (i : Nat), rn d - i = f → (i ≤ rn d) → (DK V1 D (lnAll S d i).1 π) → (DV V1 (D + 3 + 4 * π (kn S)) (lnAll S d i).2) → (dW (lnAll S d i).2) → (Off V V1 D (D + 27)) → KW E T V1 p l e { frames := 4, cells := 0, slots := 0, locals := 91 } s m args below meth c 3 0 0 (MQ below (va_Qi (fun (r : Int32) (V' : gV) => r = nI (kn S) ∧ DK V' D (kf (lnAll S d (rn d)).1, ks (lnAll S d (rn d)).1, kn (lnAll S d (rn d)).1 + 1, va_up (kdr (lnAll S d (rn d)).1) (kn (lnAll S d (rn d)).1) (lnAll S d (rn d)).2) π ∧ Off V V' D (D + 27)) (RepS E T) (gA E)) args s 0 0 (gA E)) 13 [(2, .int (nI i)), (0, .ref D), (1, .ref (D + 3 + 4 * π (kn S)))] [] := by
    intro f
    induction f using Nat.strongRecOn with
    | _ f ih =>
    intro V1 i hf hi g1 g2 g3 g4
    have zn := (lnAll_n S d i).1
    have zm := (lnAll_n S d i).2
    refine k_iload_n 13 14 C dX0_keepTraced_13 rfl 0 rfl ?_
    refine k_aload_n 14 15 C dX0_keepTraced_14 rfl 2 rfl ?_
    refine k_getN 15 18 C dX0_keepTraced_15 rfl ci_X1 7 fn_X0_94 (IsDrw.o zq) (by decide) rfl ?_
    refine k_rwI (y := nI (rn d)) (by rw [g2.f7, zm]) ?_
    refine k_icmp_ge 18 33 21 C dX0_keepTraced_18 (by decide) rfl (fun h18 => ?_) (fun h18 => ?_)
    · rw [n20 zd20 (Nat.le_trans hi zd20)] at h18
      obtain rfl : i = rn d := by omega
      refine k_aload_n 33 34 C dX0_keepTraced_33 rfl 1 rfl ?_
      refine k_dup 34 35 C dX0_keepTraced_34 rfl rfl ?_
      refine k_get 35 38 C dX0_keepTraced_35 rfl ci_X0 11 fl_X0_52 (IsDsk.o ‹_›) (by decide) rfl ?_
      refine k_rwI (y := nI (kn (lnAll S d (rn d)).1)) g1.n ?_
      refine k_iconst 38 39 C dX0_keepTraced_38 rfl (v := 1) rfl ?_
      refine k_iadd 39 40 C dX0_keepTraced_39 rfl  ?_
      refine k_rwI (nI_1 _) ?_
      refine k_put 40 43 C dX0_keepTraced_40 rfl ci_X0 11 fl_X0_52 (IsDsk.o ‹_›) (by decide) rfl rfl rfl wI_off (ps_0_11 _ _ _ _) ?_
      have zg := g1.grow (by rw [zn]; exact hn) (by rw [zn]; exact g2) g3
      have zo := g4.wI (a := D) (k := 11) (x := nI (kn (lnAll S d (rn d)).1 + 1)) (Nat.le_refl D) (by omega)
      refine k_aload_n 43 44 C dX0_keepTraced_43 rfl 1 rfl ?_
      refine k_get 44 47 C dX0_keepTraced_44 rfl ci_X0 11 fl_X0_52 (IsDsk.o ‹_›) (by decide) rfl ?_
      refine k_rwI (y := nI (kn S + 1)) (by rw [zg.n]; show nI (kn (lnAll S d (rn d)).1 + 1) = _; rw [zn]) ?_
      refine k_iconst 47 48 C dX0_keepTraced_47 rfl (v := 1) rfl ?_
      refine k_isub 48 49 C dX0_keepTraced_48 rfl  ?_
      refine k_rwI (y := nI (kn S)) (by show nI (kn S + 1) - nI 1 = _; rw [pk_sub (by omega)]; rfl) ?_
      refine k_iret 49 C dX0_keepTraced_49 rfl ?_
      exact ⟨rfl, zg, zo⟩
    · rw [n20 zd20 (Nat.le_trans hi zd20)] at h18
      refine k_aload_n 21 22 C dX0_keepTraced_21 rfl 1 rfl ?_
      refine k_aload_n 22 23 C dX0_keepTraced_22 rfl 2 rfl ?_
      refine k_iload_n 23 24 C dX0_keepTraced_23 rfl 0 rfl ?_
      refine k_callVV 24 27 C [_, _] [] dX0_keepTraced_24 rfl (ct_X0_drawLine hD g1 (by rw [zn]; exact hn) (by rw [zn]) g2 (by rw [zm]; omega)) mi_X0_drawLine ml_X0_165 im_X0_drawLine se_X0_drawLine ci_X0 (IsDsk.o ‹_›) rfl rfl ⟨Nat.le_of_ble_eq_true rfl, Nat.le_of_ble_eq_true rfl⟩ (Nat.le_of_ble_eq_true rfl) (Nat.zero_le _) (Nat.zero_le _) (fun V24 p24 => ?_)
      refine k_iinc 27 30 C [(2, _), (0, _), (1, _)] (nI (i + 1)) dX0_keepTraced_27 rfl 0 rfl (nI_1 i) (by decide) rfl ?_
      refine k_goto 30 13 C dX0_keepTraced_30 (by decide) ?_
      exact ih (rn d - (i + 1)) (by omega) V24 (i + 1) rfl (by omega) p24.1 p24.2.1 (lnD_w g2.le (by omega) g3) (g4.trans p24.2.2)
  refine k_aload_n 0 1 C dX0_keepTraced_0 rfl 0 rfl ?_
  refine k_callVQ 1 4 C [] [] dX0_keepTraced_1 rfl (ct_X0_spare hD hk) mi_X0_spare ml_X0_68 im_X0_spare se_X0_spare ci_X0 (IsDsk.o ‹_›) rfl rfl ⟨Nat.le_of_ble_eq_true rfl, Nat.le_of_ble_eq_true rfl⟩ (Nat.le_of_ble_eq_true rfl) (Nat.zero_le _) (Nat.zero_le _) (fun r1 V1 p1 => ?_)
  obtain ⟨rfl, rfl⟩ := And.intro p1.1.symm p1.2
  refine k_rwQ (if_pos hn) ?_
  refine k_astore_n 4 5 C [(1, _), (0, _)] dX0_keepTraced_4 rfl (by decide) rfl ?_
  refine k_aload_n 5 6 C dX0_keepTraced_5 rfl 0 rfl ?_
  refine k_ifnonnullO 6 11 C dX0_keepTraced_6 (by decide) ?_
  refine k_iconst 11 12 C dX0_keepTraced_11 rfl (v := 0) rfl ?_
  refine k_istore_n 12 13 C [(2, _), (1, _), (0, _)] dX0_keepTraced_12 rfl (by decide) rfl ?_
  refine k_perm [0, 2, 1] (L' := [(2, _), (0, _), (1, _)]) rfl ?_
  exact loop13 _ V 0 rfl (Nat.zero_le _) hk hd hw Off.rf
set_option maxHeartbeats 4000000 in
set_option maxRecDepth 100000 in
theorem ct_X0_trace {E : gE} {T : gT} {l : Launch} {V : gV} {D a b : Nat} {S : Dk} {π : Nat → Nat} {d : Dr} {num : Int32} (hD : IsDsk T D) (hk : DK V D S π) (hn : kn S < 6) (hae : a = D + 3 + 4 * π (kn S)) (hb : IsDrw T b) (hd : DV V b d) (hw : dW d) (hab : a + 4 ≤ b ∨ b + 4 ≤ a) : CtV E T l yX0_trace (gw yX0_trace cX0_trace 11 none) { frames := 3, cells := 0, slots := 0, locals := 63 } [.ref D, .int num, .ref b, .ref a] V (fun (V' : gV) => DV V' a (trD S num d) ∧ Off V V' a (a + 4)) := by
  refine ctV_of (L := [(0, .ref D), (1, .int num), (2, .ref b), (3, .ref a)]) (by decide) rfl (Nat.le_of_ble_eq_true rfl) rfl (fun p e s m args below meth c C => ?_)
  have hp6 := hk.p _ hn
  have ha : IsDrw T a := by rw [hae]; exact hD.d _ hp6
  have loop115 : ∀ (f : Nat) (V1 : gV) (i : Nat), rn d - i = f → (i ≤ rn d) → (DV V1 a (dTake (trD S num d) i)) → (Off V V1 a (a + 4)) → KW E T V1 p l e { frames := 3, cells := 0, slots := 0, locals := 63 } s m args below meth c 11 0 0 (MQ below (va_Qv (fun (V' : gV) => DV V' a (trD S num d) ∧ Off V V' a (a + 4)) (RepS E T) (gA E)) args s 0 0 (gA E)) 115 [(6, .int (nI i)), (4, .long (trP S d)), (0, .ref D), (1, .int num), (2, .ref b), (3, .ref a)] [] := by
    intro f
    induction f using Nat.strongRecOn with
    | _ f ih =>
    intro V1 i hf hi g1 g2
    have f1 := hd.off g2 (by omega)
    have kq := hk.spare hn (Nat.le_refl _) (by rw [← hae]; exact g2)
    refine k_iload 115 117 C dX0_trace_115 rfl 0 rfl ?_
    refine k_aload_n 117 118 C dX0_trace_117 rfl 4 rfl ?_
    refine k_getN 118 121 C dX0_trace_118 rfl ci_X1 7 fn_X0_94 (IsDrw.o hb) (by decide) rfl ?_
    refine k_rwI (f1.f7) ?_
    refine k_icmp_ge 121 243 124 C dX0_trace_121 (by decide) rfl (fun h121 => ?_) (fun h121 => ?_)
    · rw [n20 hd.le (Nat.le_trans hi hd.le)] at h121
      obtain rfl : i = rn d := by omega
      refine k_vret 243 C dX0_trace_243 rfl ?_
      exact ⟨g1.to rfl rfl rfl rfl rfl rfl rfl rfl (fun i hi => ⟨rfl, rfl, rfl⟩), g2⟩
    · rw [n20 hd.le (Nat.le_trans hi hd.le)] at h121
      have zl : i < rn d := by omega
      have z20 := hd.le
      refine k_aload_n 124 125 C dX0_trace_124 rfl 2 rfl ?_
      refine k_aload_n 125 126 C dX0_trace_125 rfl 4 rfl ?_
      refine k_iload 126 128 C dX0_trace_126 rfl 0 rfl ?_
      refine k_callVL 128 131 C [_] [_] dX0_trace_128 rfl (ct_X1_x hb f1) mi_X1_x ml_X0_83 im_X1_x se_X1_x ci_X1 (IsDrw.o hb) rfl rfl ⟨Nat.le_of_ble_eq_true rfl, Nat.le_of_ble_eq_true rfl⟩ (Nat.le_of_ble_eq_true rfl) (Nat.zero_le _) (Nat.zero_le _) (fun r128 V128 p128 => ?_)
      obtain ⟨rfl, rfl⟩ := And.intro p128.1.symm p128.2
      refine k_aload_n 131 132 C dX0_trace_131 rfl 4 rfl ?_
      refine k_getN 132 135 C dX0_trace_132 rfl ci_X1 2 fn_X0_90 (IsDrw.o hb) (by decide) rfl ?_
      refine k_rwL (f1.f2) ?_
      refine k_aload_n 135 136 C dX0_trace_135 rfl 2 rfl ?_
      refine k_get 136 139 C dX0_trace_136 rfl ci_X0 2 fl_X0_18 (IsDsk.o ‹_›) (by decide) rfl ?_
      refine k_rwI (kq.f 2 (by decide) (by decide)) ?_
      refine k_aload_n 139 140 C dX0_trace_139 rfl 2 rfl ?_
      refine k_callVI 140 143 C [] [_, _, _, _] dX0_trace_140 rfl (ct_X0_signX hD kq) mi_X0_signX ml_X0_140 im_X0_signX se_X0_signX ci_X0 (IsDsk.o ‹_›) rfl rfl ⟨Nat.le_of_ble_eq_true rfl, Nat.le_of_ble_eq_true rfl⟩ (Nat.le_of_ble_eq_true rfl) (Nat.zero_le _) (Nat.zero_le _) (fun r140 V140 p140 => ?_)
      obtain ⟨rfl, rfl⟩ := And.intro p140.1.symm p140.2
      refine k_callVL 143 146 C [_, _, _, _] [] dX0_trace_143 rfl (ct_X0_aim hD kq) mi_X0_aim ml_X0_150 im_X0_aim se_X0_aim ci_X0 (IsDsk.o ‹_›) rfl rfl ⟨Nat.le_of_ble_eq_true rfl, Nat.le_of_ble_eq_true rfl⟩ (Nat.le_of_ble_eq_true rfl) (Nat.zero_le _) (Nat.zero_le _) (fun r143 V143 p143 => ?_)
      obtain ⟨rfl, rfl⟩ := And.intro p143.1.symm p143.2
      refine k_lstore 146 148 C [(7, _), (6, _), (4, _), (0, _), (1, _), (2, _), (3, _)] dX0_trace_146 rfl (by decide) rfl ?_
      refine k_aload_n 148 149 C dX0_trace_148 rfl 3 rfl ?_
      refine k_aload_n 149 150 C dX0_trace_149 rfl 5 rfl ?_
      refine k_iload 150 152 C dX0_trace_150 rfl 1 rfl ?_
      refine k_callVL 152 155 C [_] [_] dX0_trace_152 rfl (ct_X1_y hb f1) mi_X1_y ml_X0_87 im_X1_y se_X1_y ci_X1 (IsDrw.o hb) rfl rfl ⟨Nat.le_of_ble_eq_true rfl, Nat.le_of_ble_eq_true rfl⟩ (Nat.le_of_ble_eq_true rfl) (Nat.zero_le _) (Nat.zero_le _) (fun r152 V152 p152 => ?_)
      obtain ⟨rfl, rfl⟩ := And.intro p152.1.symm p152.2
      refine k_aload_n 155 156 C dX0_trace_155 rfl 5 rfl ?_
      refine k_getN 156 159 C dX0_trace_156 rfl ci_X1 2 fn_X0_90 (IsDrw.o hb) (by decide) rfl ?_
      refine k_rwL (f1.f2) ?_
      refine k_aload_n 159 160 C dX0_trace_159 rfl 3 rfl ?_
      refine k_get 160 163 C dX0_trace_160 rfl ci_X0 3 fl_X0_21 (IsDsk.o ‹_›) (by decide) rfl ?_
      refine k_rwI (kq.f 3 (by decide) (by decide)) ?_
      refine k_aload_n 163 164 C dX0_trace_163 rfl 3 rfl ?_
      refine k_callVI 164 167 C [] [_, _, _, _] dX0_trace_164 rfl (ct_X0_signY hD kq) mi_X0_signY ml_X0_145 im_X0_signY se_X0_signY ci_X0 (IsDsk.o ‹_›) rfl rfl ⟨Nat.le_of_ble_eq_true rfl, Nat.le_of_ble_eq_true rfl⟩ (Nat.le_of_ble_eq_true rfl) (Nat.zero_le _) (Nat.zero_le _) (fun r164 V164 p164 => ?_)
      obtain ⟨rfl, rfl⟩ := And.intro p164.1.symm p164.2
      refine k_callVL 167 170 C [_, _, _, _] [] dX0_trace_167 rfl (ct_X0_aim hD kq) mi_X0_aim ml_X0_150 im_X0_aim se_X0_aim ci_X0 (IsDsk.o ‹_›) rfl rfl ⟨Nat.le_of_ble_eq_true rfl, Nat.le_of_ble_eq_true rfl⟩ (Nat.le_of_ble_eq_true rfl) (Nat.zero_le _) (Nat.zero_le _) (fun r167 V167 p167 => ?_)
      obtain ⟨rfl, rfl⟩ := And.intro p167.1.symm p167.2
      refine k_lstore 170 172 C [(9, _), (7, _), (6, _), (4, _), (0, _), (1, _), (2, _), (3, _)] dX0_trace_170 rfl (by decide) rfl ?_
      refine k_aload_n 172 173 C dX0_trace_172 rfl 6 rfl ?_
      refine k_iload 173 175 C dX0_trace_173 rfl 2 rfl ?_
      refine k_callVI 175 178 C [_] [] dX0_trace_175 rfl (ct_X1_isJoined hb f1) mi_X1_isJoined ml_X0_107 im_X1_isJoined se_X1_isJoined ci_X1 (IsDrw.o hb) rfl rfl ⟨Nat.le_of_ble_eq_true rfl, Nat.le_of_ble_eq_true rfl⟩ (Nat.le_of_ble_eq_true rfl) (Nat.zero_le _) (Nat.zero_le _) (fun r175 V175 p175 => ?_)
      obtain ⟨rfl, rfl⟩ := And.intro p175.1.symm p175.2
      refine k_ifb_eq 178 215 181 C dX0_trace_178 (by decide) rfl (fun h178 => ?_) (fun h178 => ?_)
      · refine k_aload_n 215 216 C dX0_trace_215 rfl 7 rfl ?_
        refine k_lload 216 218 C dX0_trace_216 rfl 1 rfl ?_
        refine k_lload 218 220 C dX0_trace_218 rfl 0 rfl ?_
        refine k_aload_n 220 221 C dX0_trace_220 rfl 6 rfl ?_
        refine k_iload 221 223 C dX0_trace_221 rfl 2 rfl ?_
        refine k_callVI 223 226 C [_] [_, _, _] dX0_trace_223 rfl (ct_X1_isJoined hb f1) mi_X1_isJoined ml_X0_107 im_X1_isJoined se_X1_isJoined ci_X1 (IsDrw.o hb) rfl rfl ⟨Nat.le_of_ble_eq_true rfl, Nat.le_of_ble_eq_true rfl⟩ (Nat.le_of_ble_eq_true rfl) (Nat.zero_le _) (Nat.zero_le _) (fun r223 V223 p223 => ?_)
        obtain ⟨rfl, rfl⟩ := And.intro p223.1.symm p223.2
        refine k_ifb_eq 226 233 229 C dX0_trace_226 (by decide) rfl (fun h226 => ?_) (fun h226 => ?_)
        · refine k_iconst 233 234 C dX0_trace_233 rfl (v := (-1)) rfl ?_
          refine k_callVV 234 237 C [_, _, _] [] dX0_trace_234 rfl (ct_X1_add ha g1 (show i < 20 by omega)) mi_X1_add ml_X0_161 im_X1_add se_X1_add ci_X1 (IsDrw.o ha) rfl rfl ⟨Nat.le_of_ble_eq_true rfl, Nat.le_of_ble_eq_true rfl⟩ (Nat.le_of_ble_eq_true rfl) (Nat.zero_le _) (Nat.zero_le _) (fun V234 p234 => ?_)
          refine k_iinc 237 240 C [(6, _), (9, _), (7, _), (4, _), (0, _), (1, _), (2, _), (3, _)] (nI (i + 1)) dX0_trace_237 rfl 2 rfl (nI_1 i) (by decide) rfl ?_
          refine k_goto 240 115 C dX0_trace_240 (by decide) ?_
          refine k_perm [0, 3, 4, 5, 6, 7] (L' := [(6, _), (4, _), (0, _), (1, _), (2, _), (3, _)]) rfl ?_
          have zs : DV V234 a (dTake (trD S num d) (i + 1)) := by
            first
              | exact absurd h226 h178
              | exact absurd h178 h226
              | exact take_step (t := trD S num d) (trX_u (Classical.not_not.mp h178)).symm (trY_u (Classical.not_not.mp h178)).symm (by show _ = trL d i; unfold trL; rw [if_pos (Classical.not_not.mp h178)]) p234.1
              | exact take_step (t := trD S num d) (trX_j h178 zi).symm (trY_j h178 zi).symm (by show _ = trL d i; unfold trL; rw [if_neg h178]) p234.1
          exact ih (rn d - (i + 1)) (by omega) V234 (i + 1) rfl (by omega) zs (g2.trans p234.2)
        · refine k_iconst 229 230 C dX0_trace_229 rfl (v := 0) rfl ?_
          refine k_goto 230 234 C dX0_trace_230 (by decide) ?_
          refine k_callVV 234 237 C [_, _, _] [] dX0_trace_234 rfl (ct_X1_add ha g1 (show i < 20 by omega)) mi_X1_add ml_X0_161 im_X1_add se_X1_add ci_X1 (IsDrw.o ha) rfl rfl ⟨Nat.le_of_ble_eq_true rfl, Nat.le_of_ble_eq_true rfl⟩ (Nat.le_of_ble_eq_true rfl) (Nat.zero_le _) (Nat.zero_le _) (fun V234 p234 => ?_)
          refine k_iinc 237 240 C [(6, _), (9, _), (7, _), (4, _), (0, _), (1, _), (2, _), (3, _)] (nI (i + 1)) dX0_trace_237 rfl 2 rfl (nI_1 i) (by decide) rfl ?_
          refine k_goto 240 115 C dX0_trace_240 (by decide) ?_
          refine k_perm [0, 3, 4, 5, 6, 7] (L' := [(6, _), (4, _), (0, _), (1, _), (2, _), (3, _)]) rfl ?_
          have zs : DV V234 a (dTake (trD S num d) (i + 1)) := by
            first
              | exact absurd h226 h178
              | exact absurd h178 h226
              | exact take_step (t := trD S num d) (trX_u (Classical.not_not.mp h178)).symm (trY_u (Classical.not_not.mp h178)).symm (by show _ = trL d i; unfold trL; rw [if_pos (Classical.not_not.mp h178)]) p234.1
              | exact take_step (t := trD S num d) (trX_j h178 zi).symm (trY_j h178 zi).symm (by show _ = trL d i; unfold trL; rw [if_neg h178]) p234.1
          exact ih (rn d - (i + 1)) (by omega) V234 (i + 1) rfl (by omega) zs (g2.trans p234.2)
      · have zi : 0 < i := dW_join hd.le zl hw h178
        refine k_aload_n 181 182 C dX0_trace_181 rfl 7 rfl ?_
        refine k_iload 182 184 C dX0_trace_182 rfl 2 rfl ?_
        refine k_iconst 184 185 C dX0_trace_184 rfl (v := 1) rfl ?_
        refine k_isub 185 186 C dX0_trace_185 rfl  ?_
        refine k_callVL 186 189 C [_] [] dX0_trace_186 rfl (ct_X1_x ha g1) mi_X1_x ml_X0_83 im_X1_x se_X1_x ci_X1 (IsDrw.o ha) rfl rfl ⟨Nat.le_of_ble_eq_true rfl, Nat.le_of_ble_eq_true rfl⟩ (Nat.le_of_ble_eq_true rfl) (Nat.zero_le _) (Nat.zero_le _) (fun r186 V186 p186 => ?_)
        obtain ⟨rfl, rfl⟩ := And.intro p186.1.symm p186.2
        refine k_rwL (pred_at zi (by omega)).1 ?_
        refine k_lload 189 191 C dX0_trace_189 rfl 1 rfl ?_
        refine k_lload 191 193 C dX0_trace_191 rfl 3 rfl ?_
        refine k_callSL 193 196 C [_, _, _] [] dX0_trace_193 rfl ct_X0_follow mi_X0_follow ml_X0_157 st_X0_follow rfl rfl ⟨Nat.le_of_ble_eq_true rfl, Nat.le_of_ble_eq_true rfl⟩ (Nat.le_of_ble_eq_true rfl) (Nat.zero_le _) (Nat.zero_le _) (fun r193 V193 p193 => ?_)
        obtain ⟨rfl, rfl⟩ := And.intro p193.1.symm p193.2
        refine k_lstore 196 198 C [(7, _), (9, _), (6, _), (4, _), (0, _), (1, _), (2, _), (3, _)] dX0_trace_196 rfl (by decide) rfl ?_
        refine k_aload_n 198 199 C dX0_trace_198 rfl 7 rfl ?_
        refine k_iload 199 201 C dX0_trace_199 rfl 2 rfl ?_
        refine k_iconst 201 202 C dX0_trace_201 rfl (v := 1) rfl ?_
        refine k_isub 202 203 C dX0_trace_202 rfl  ?_
        refine k_callVL 203 206 C [_] [] dX0_trace_203 rfl (ct_X1_y ha g1) mi_X1_y ml_X0_87 im_X1_y se_X1_y ci_X1 (IsDrw.o ha) rfl rfl ⟨Nat.le_of_ble_eq_true rfl, Nat.le_of_ble_eq_true rfl⟩ (Nat.le_of_ble_eq_true rfl) (Nat.zero_le _) (Nat.zero_le _) (fun r203 V203 p203 => ?_)
        obtain ⟨rfl, rfl⟩ := And.intro p203.1.symm p203.2
        refine k_rwL (pred_at zi (by omega)).2 ?_
        refine k_lload 206 208 C dX0_trace_206 rfl 1 rfl ?_
        refine k_lload 208 210 C dX0_trace_208 rfl 3 rfl ?_
        refine k_callSL 210 213 C [_, _, _] [] dX0_trace_210 rfl ct_X0_follow mi_X0_follow ml_X0_157 st_X0_follow rfl rfl ⟨Nat.le_of_ble_eq_true rfl, Nat.le_of_ble_eq_true rfl⟩ (Nat.le_of_ble_eq_true rfl) (Nat.zero_le _) (Nat.zero_le _) (fun r210 V210 p210 => ?_)
        obtain ⟨rfl, rfl⟩ := And.intro p210.1.symm p210.2
        refine k_lstore 213 215 C [(9, _), (7, _), (6, _), (4, _), (0, _), (1, _), (2, _), (3, _)] dX0_trace_213 rfl (by decide) rfl ?_
        refine k_aload_n 215 216 C dX0_trace_215 rfl 7 rfl ?_
        refine k_lload 216 218 C dX0_trace_216 rfl 1 rfl ?_
        refine k_lload 218 220 C dX0_trace_218 rfl 0 rfl ?_
        refine k_aload_n 220 221 C dX0_trace_220 rfl 6 rfl ?_
        refine k_iload 221 223 C dX0_trace_221 rfl 2 rfl ?_
        refine k_callVI 223 226 C [_] [_, _, _] dX0_trace_223 rfl (ct_X1_isJoined hb f1) mi_X1_isJoined ml_X0_107 im_X1_isJoined se_X1_isJoined ci_X1 (IsDrw.o hb) rfl rfl ⟨Nat.le_of_ble_eq_true rfl, Nat.le_of_ble_eq_true rfl⟩ (Nat.le_of_ble_eq_true rfl) (Nat.zero_le _) (Nat.zero_le _) (fun r223 V223 p223 => ?_)
        obtain ⟨rfl, rfl⟩ := And.intro p223.1.symm p223.2
        refine k_ifb_eq 226 233 229 C dX0_trace_226 (by decide) rfl (fun h226 => ?_) (fun h226 => ?_)
        · refine k_iconst 233 234 C dX0_trace_233 rfl (v := (-1)) rfl ?_
          refine k_callVV 234 237 C [_, _, _] [] dX0_trace_234 rfl (ct_X1_add ha g1 (show i < 20 by omega)) mi_X1_add ml_X0_161 im_X1_add se_X1_add ci_X1 (IsDrw.o ha) rfl rfl ⟨Nat.le_of_ble_eq_true rfl, Nat.le_of_ble_eq_true rfl⟩ (Nat.le_of_ble_eq_true rfl) (Nat.zero_le _) (Nat.zero_le _) (fun V234 p234 => ?_)
          refine k_iinc 237 240 C [(6, _), (9, _), (7, _), (4, _), (0, _), (1, _), (2, _), (3, _)] (nI (i + 1)) dX0_trace_237 rfl 2 rfl (nI_1 i) (by decide) rfl ?_
          refine k_goto 240 115 C dX0_trace_240 (by decide) ?_
          refine k_perm [0, 3, 4, 5, 6, 7] (L' := [(6, _), (4, _), (0, _), (1, _), (2, _), (3, _)]) rfl ?_
          have zs : DV V234 a (dTake (trD S num d) (i + 1)) := by
            first
              | exact absurd h226 h178
              | exact absurd h178 h226
              | exact take_step (t := trD S num d) (trX_u (Classical.not_not.mp h178)).symm (trY_u (Classical.not_not.mp h178)).symm (by show _ = trL d i; unfold trL; rw [if_pos (Classical.not_not.mp h178)]) p234.1
              | exact take_step (t := trD S num d) (trX_j h178 zi).symm (trY_j h178 zi).symm (by show _ = trL d i; unfold trL; rw [if_neg h178]) p234.1
          exact ih (rn d - (i + 1)) (by omega) V234 (i + 1) rfl (by omega) zs (g2.trans p234.2)
        · refine k_iconst 229 230 C dX0_trace_229 rfl (v := 0) rfl ?_
          refine k_goto 230 234 C dX0_trace_230 (by decide) ?_
          refine k_callVV 234 237 C [_, _, _] [] dX0_trace_234 rfl (ct_X1_add ha g1 (show i < 20 by omega)) mi_X1_add ml_X0_161 im_X1_add se_X1_add ci_X1 (IsDrw.o ha) rfl rfl ⟨Nat.le_of_ble_eq_true rfl, Nat.le_of_ble_eq_true rfl⟩ (Nat.le_of_ble_eq_true rfl) (Nat.zero_le _) (Nat.zero_le _) (fun V234 p234 => ?_)
          refine k_iinc 237 240 C [(6, _), (9, _), (7, _), (4, _), (0, _), (1, _), (2, _), (3, _)] (nI (i + 1)) dX0_trace_237 rfl 2 rfl (nI_1 i) (by decide) rfl ?_
          refine k_goto 240 115 C dX0_trace_240 (by decide) ?_
          refine k_perm [0, 3, 4, 5, 6, 7] (L' := [(6, _), (4, _), (0, _), (1, _), (2, _), (3, _)]) rfl ?_
          have zs : DV V234 a (dTake (trD S num d) (i + 1)) := by
            first
              | exact absurd h226 h178
              | exact absurd h178 h226
              | exact take_step (t := trD S num d) (trX_u (Classical.not_not.mp h178)).symm (trY_u (Classical.not_not.mp h178)).symm (by show _ = trL d i; unfold trL; rw [if_pos (Classical.not_not.mp h178)]) p234.1
              | exact take_step (t := trD S num d) (trX_j h178 zi).symm (trY_j h178 zi).symm (by show _ = trL d i; unfold trL; rw [if_neg h178]) p234.1
          exact ih (rn d - (i + 1)) (by omega) V234 (i + 1) rfl (by omega) zs (g2.trans p234.2)
  refine k_aload_n 0 1 C dX0_trace_0 rfl 3 rfl ?_
  refine k_iload_n 1 2 C dX0_trace_1 rfl 1 rfl ?_
  refine k_aload_n 2 3 C dX0_trace_2 rfl 2 rfl ?_
  refine k_getN 3 6 C dX0_trace_3 rfl ci_X1 1 fn_X0_134 (IsDrw.o hb) (by decide) rfl ?_
  refine k_rwL (hd.f1) ?_
  refine k_aload_n 6 7 C dX0_trace_6 rfl 0 rfl ?_
  refine k_get 7 10 C dX0_trace_7 rfl ci_X0 0 fl_X0_9 (IsDsk.o ‹_›) (by decide) rfl ?_
  refine k_rwI (hk.f 0 (by decide) (by decide)) ?_
  refine k_i2l 10 11 C dX0_trace_10 rfl  ?_
  refine k_lmul 11 12 C dX0_trace_11 rfl  ?_
  refine k_aload_n 12 13 C dX0_trace_12 rfl 2 rfl ?_
  refine k_getN 13 16 C dX0_trace_13 rfl ci_X1 2 fn_X0_90 (IsDrw.o hb) (by decide) rfl ?_
  refine k_rwL (hd.f2) ?_
  refine k_aload_n 16 17 C dX0_trace_16 rfl 0 rfl ?_
  refine k_get 17 20 C dX0_trace_17 rfl ci_X0 1 fl_X0_15 (IsDsk.o ‹_›) (by decide) rfl ?_
  refine k_rwI (hk.f 1 (by decide) (by decide)) ?_
  refine k_i2l 20 21 C dX0_trace_20 rfl  ?_
  refine k_lmul 21 22 C dX0_trace_21 rfl  ?_
  refine k_callVV 22 25 C [_, _, _] [] dX0_trace_22 rfl (ct_X1_begin ha) mi_X1_begin ml_X0_72 im_X1_begin se_X1_begin ci_X1 (IsDrw.o ha) rfl rfl ⟨Nat.le_of_ble_eq_true rfl, Nat.le_of_ble_eq_true rfl⟩ (Nat.le_of_ble_eq_true rfl) (Nat.zero_le _) (Nat.zero_le _) (fun V22 p22 => ?_)
  have e1 := hd.off p22.2 (by omega)
  have k1 := hk.spare hn (Nat.le_refl _) (by rw [← hae]; exact p22.2)
  refine k_aload_n 25 26 C dX0_trace_25 rfl 3 rfl ?_
  refine k_aload_n 26 27 C dX0_trace_26 rfl 2 rfl ?_
  refine k_getN 27 30 C dX0_trace_27 rfl ci_X1 3 fn_X0_137 (IsDrw.o hb) (by decide) rfl ?_
  refine k_rwI (e1.f3) ?_
  refine k_aload_n 30 31 C dX0_trace_30 rfl 0 rfl ?_
  refine k_callVI 31 34 C [] [_, _] dX0_trace_31 rfl (ct_X0_signX hD k1) mi_X0_signX ml_X0_140 im_X0_signX se_X0_signX ci_X0 (IsDsk.o ‹_›) rfl rfl ⟨Nat.le_of_ble_eq_true rfl, Nat.le_of_ble_eq_true rfl⟩ (Nat.le_of_ble_eq_true rfl) (Nat.zero_le _) (Nat.zero_le _) (fun r31 V31 p31 => ?_)
  obtain ⟨rfl, rfl⟩ := And.intro p31.1.symm p31.2
  refine k_imul 34 35 C dX0_trace_34 rfl  ?_
  refine k_putN 35 38 C dX0_trace_35 rfl ci_X1 3 fn_X0_137 (IsDrw.o ha) (by decide) rfl rfl rfl wI_off (ps_1_3 _ _ _ _) ?_
  have o1 := p22.2.wI (k := 3) (x := rsx d * sgX S) (Nat.le_refl a) (by omega)
  have e2 := hd.off o1 (by omega)
  have k2 := hk.spare hn (Nat.le_refl _) (by rw [← hae]; exact o1)
  refine k_aload_n 38 39 C dX0_trace_38 rfl 3 rfl ?_
  refine k_aload_n 39 40 C dX0_trace_39 rfl 2 rfl ?_
  refine k_getN 40 43 C dX0_trace_40 rfl ci_X1 4 fn_X0_142 (IsDrw.o hb) (by decide) rfl ?_
  refine k_rwI (e2.f4) ?_
  refine k_aload_n 43 44 C dX0_trace_43 rfl 0 rfl ?_
  refine k_callVI 44 47 C [] [_, _] dX0_trace_44 rfl (ct_X0_signY hD k2) mi_X0_signY ml_X0_145 im_X0_signY se_X0_signY ci_X0 (IsDsk.o ‹_›) rfl rfl ⟨Nat.le_of_ble_eq_true rfl, Nat.le_of_ble_eq_true rfl⟩ (Nat.le_of_ble_eq_true rfl) (Nat.zero_le _) (Nat.zero_le _) (fun r44 V44 p44 => ?_)
  obtain ⟨rfl, rfl⟩ := And.intro p44.1.symm p44.2
  refine k_imul 47 48 C dX0_trace_47 rfl  ?_
  refine k_putN 48 51 C dX0_trace_48 rfl ci_X1 4 fn_X0_142 (IsDrw.o ha) (by decide) rfl rfl rfl wI_off (ps_1_4 _ _ _ _) ?_
  have o2 := o1.wI (k := 4) (x := rsy d * sgY S) (Nat.le_refl a) (by omega)
  have e3 := hd.off o2 (by omega)
  have k3 := hk.spare hn (Nat.le_refl _) (by rw [← hae]; exact o2)
  refine k_aload_n 51 52 C dX0_trace_51 rfl 3 rfl ?_
  refine k_aload_n 52 53 C dX0_trace_52 rfl 0 rfl ?_
  refine k_aload_n 53 54 C dX0_trace_53 rfl 2 rfl ?_
  refine k_getN 54 57 C dX0_trace_54 rfl ci_X1 5 fn_X0_147 (IsDrw.o hb) (by decide) rfl ?_
  refine k_rwL (e3.f5) ?_
  refine k_aload_n 57 58 C dX0_trace_57 rfl 2 rfl ?_
  refine k_getN 58 61 C dX0_trace_58 rfl ci_X1 2 fn_X0_90 (IsDrw.o hb) (by decide) rfl ?_
  refine k_rwL (e3.f2) ?_
  refine k_aload_n 61 62 C dX0_trace_61 rfl 0 rfl ?_
  refine k_get 62 65 C dX0_trace_62 rfl ci_X0 2 fl_X0_18 (IsDsk.o ‹_›) (by decide) rfl ?_
  refine k_rwI (k3.f 2 (by decide) (by decide)) ?_
  refine k_aload_n 65 66 C dX0_trace_65 rfl 0 rfl ?_
  refine k_callVI 66 69 C [] [_, _, _, _, _] dX0_trace_66 rfl (ct_X0_signX hD k3) mi_X0_signX ml_X0_140 im_X0_signX se_X0_signX ci_X0 (IsDsk.o ‹_›) rfl rfl ⟨Nat.le_of_ble_eq_true rfl, Nat.le_of_ble_eq_true rfl⟩ (Nat.le_of_ble_eq_true rfl) (Nat.zero_le _) (Nat.zero_le _) (fun r66 V66 p66 => ?_)
  obtain ⟨rfl, rfl⟩ := And.intro p66.1.symm p66.2
  refine k_callVL 69 72 C [_, _, _, _] [_] dX0_trace_69 rfl (ct_X0_aim hD k3) mi_X0_aim ml_X0_150 im_X0_aim se_X0_aim ci_X0 (IsDsk.o ‹_›) rfl rfl ⟨Nat.le_of_ble_eq_true rfl, Nat.le_of_ble_eq_true rfl⟩ (Nat.le_of_ble_eq_true rfl) (Nat.zero_le _) (Nat.zero_le _) (fun r69 V69 p69 => ?_)
  obtain ⟨rfl, rfl⟩ := And.intro p69.1.symm p69.2
  refine k_putN 72 75 C dX0_trace_72 rfl ci_X1 5 fn_X0_147 (IsDrw.o ha) (by decide) rfl rfl rfl wL_off (ps_1_5 _ _ _ _) ?_
  have o3 := o2.wL (k := 5) (x := sAim S (rhx d) (rpt d) (kf S 2) (sgX S)) (Nat.le_refl a) (by omega)
  have e4 := hd.off o3 (by omega)
  have k4 := hk.spare hn (Nat.le_refl _) (by rw [← hae]; exact o3)
  refine k_aload_n 75 76 C dX0_trace_75 rfl 3 rfl ?_
  refine k_aload_n 76 77 C dX0_trace_76 rfl 0 rfl ?_
  refine k_aload_n 77 78 C dX0_trace_77 rfl 2 rfl ?_
  refine k_getN 78 81 C dX0_trace_78 rfl ci_X1 6 fn_X0_154 (IsDrw.o hb) (by decide) rfl ?_
  refine k_rwL (e4.f6) ?_
  refine k_aload_n 81 82 C dX0_trace_81 rfl 2 rfl ?_
  refine k_getN 82 85 C dX0_trace_82 rfl ci_X1 2 fn_X0_90 (IsDrw.o hb) (by decide) rfl ?_
  refine k_rwL (e4.f2) ?_
  refine k_aload_n 85 86 C dX0_trace_85 rfl 0 rfl ?_
  refine k_get 86 89 C dX0_trace_86 rfl ci_X0 3 fl_X0_21 (IsDsk.o ‹_›) (by decide) rfl ?_
  refine k_rwI (k4.f 3 (by decide) (by decide)) ?_
  refine k_aload_n 89 90 C dX0_trace_89 rfl 0 rfl ?_
  refine k_callVI 90 93 C [] [_, _, _, _, _] dX0_trace_90 rfl (ct_X0_signY hD k4) mi_X0_signY ml_X0_145 im_X0_signY se_X0_signY ci_X0 (IsDsk.o ‹_›) rfl rfl ⟨Nat.le_of_ble_eq_true rfl, Nat.le_of_ble_eq_true rfl⟩ (Nat.le_of_ble_eq_true rfl) (Nat.zero_le _) (Nat.zero_le _) (fun r90 V90 p90 => ?_)
  obtain ⟨rfl, rfl⟩ := And.intro p90.1.symm p90.2
  refine k_callVL 93 96 C [_, _, _, _] [_] dX0_trace_93 rfl (ct_X0_aim hD k4) mi_X0_aim ml_X0_150 im_X0_aim se_X0_aim ci_X0 (IsDsk.o ‹_›) rfl rfl ⟨Nat.le_of_ble_eq_true rfl, Nat.le_of_ble_eq_true rfl⟩ (Nat.le_of_ble_eq_true rfl) (Nat.zero_le _) (Nat.zero_le _) (fun r93 V93 p93 => ?_)
  obtain ⟨rfl, rfl⟩ := And.intro p93.1.symm p93.2
  refine k_putN 96 99 C dX0_trace_96 rfl ci_X1 6 fn_X0_154 (IsDrw.o ha) (by decide) rfl rfl rfl wL_off (ps_1_6 _ _ _ _) ?_
  have o4 := o3.wL (k := 6) (x := sAim S (rhy d) (rpt d) (kf S 3) (sgY S)) (Nat.le_refl a) (by omega)
  have e5 := hd.off o4 (by omega)
  have k5 := hk.spare hn (Nat.le_refl _) (by rw [← hae]; exact o4)
  refine k_aload_n 99 100 C dX0_trace_99 rfl 0 rfl ?_
  refine k_iconst 100 101 C dX0_trace_100 rfl (v := 1) rfl ?_
  refine k_callVI 101 104 C [_] [] dX0_trace_101 rfl (ct_X0_setting hD k5) mi_X0_setting ml_X0_56 im_X0_setting se_X0_setting ci_X0 (IsDsk.o ‹_›) rfl rfl ⟨Nat.le_of_ble_eq_true rfl, Nat.le_of_ble_eq_true rfl⟩ (Nat.le_of_ble_eq_true rfl) (Nat.zero_le _) (Nat.zero_le _) (fun r101 V101 p101 => ?_)
  obtain ⟨rfl, rfl⟩ := And.intro p101.1.symm p101.2
  refine k_rwI (show sSet S 1 = ks S 1 from rfl) ?_
  refine k_i2l 104 105 C dX0_trace_104 rfl  ?_
  refine k_aload_n 105 106 C dX0_trace_105 rfl 3 rfl ?_
  refine k_getN 106 109 C dX0_trace_106 rfl ci_X1 2 fn_X0_90 (IsDrw.o ha) (by decide) rfl ?_
  refine k_rwL (y := rpt d * (kf S 1).toInt64) (by simp [wI, wL, vp_updL]; exact p22.1.f2) ?_
  refine k_lmul 109 110 C dX0_trace_109 rfl  ?_
  refine k_lstore 110 112 C [(4, _), (0, _), (1, _), (2, _), (3, _)] dX0_trace_110 rfl (by decide) rfl ?_
  refine k_iconst 112 113 C dX0_trace_112 rfl (v := 0) rfl ?_
  refine k_istore 113 115 C [(6, _), (4, _), (0, _), (1, _), (2, _), (3, _)] dX0_trace_113 rfl (by decide) rfl ?_
  refine loop115 _ _ 0 rfl (Nat.zero_le _) ?_ o4
  obtain ⟨q0, q1, q2, q3, q4, q5, q6, q7, q8, q9⟩ := p22.1
  exact ⟨by simp [wI, wL, upd]; exact q0, by simp [wI, wL, vp_updL]; exact q1, by simp [wI, wL, vp_updL]; exact q2, by simp [wI, wL, upd]; rfl, by simp [wI, wL, upd]; rfl, by simp [wI, wL, vp_updL]; rfl, by simp [wI, wL, vp_updL]; rfl, by simp [wI, wL, upd]; exact q7, Nat.zero_le _, fun i hi => absurd hi (Nat.not_lt_zero i)⟩

