set_option maxHeartbeats 4000000 in
set_option maxRecDepth 100000 in
theorem ct_X1_drawnLines {E : gE} {T : gT} {l : Launch} {V : gV} {a : Nat} {d : Dr} (ha : IsDrw T a) (hd : DV V a d) : CtI E T l yX1_drawnLines (gw yX1_drawnLines cX1_drawnLines 3 (some .int)) { frames := 3, cells := 0, slots := 0, locals := 63 } [.ref a] V (fun (r : Int32) (V' : gV) => V' = V ∧ r = nI (cntW d (rn d))) := by
  refine ctI_of (L := [(0, .ref a)]) (by decide) rfl (Nat.le_of_ble_eq_true rfl) rfl (fun p e s m args below meth c C => ?_)
  have loop4 : ∀ (f : Nat) (j : Nat), rn d - j = f → (j ≤ rn d) → KW E T V p l e { frames := 3, cells := 0, slots := 0, locals := 63 } s m args below meth c 3 0 0 (MQ below (va_Qi (fun (r : Int32) (V' : gV) => V' = V ∧ r = nI (cntW d (rn d))) (RepS E T) (gA E)) args s 0 0 (gA E)) 4 [(2, .int (nI j)), (1, .int (nI (cntW d j))), (0, .ref a)] [] := by
    intro f
    induction f using Nat.strongRecOn with
    | _ f ih =>
    intro j hf hj
    refine k_iload_n 4 5 C dX1_drawnLines_4 rfl 0 rfl ?_
    refine k_aload_n 5 6 C dX1_drawnLines_5 rfl 2 rfl ?_
    refine k_get 6 9 C dX1_drawnLines_6 rfl ci_X1 7 fl_X1_34 (IsDrw.o ‹_›) (by decide) rfl ?_
    refine k_rwI (hd.f7) ?_
    refine k_icmp_ge 9 29 12 C dX1_drawnLines_9 (by decide) rfl (fun h9 => ?_) (fun h9 => ?_)
    · rw [n20 hd.le (Nat.le_trans hj hd.le)] at h9
      obtain rfl : j = rn d := by omega
      refine k_iload_n 29 30 C dX1_drawnLines_29 rfl 1 rfl ?_
      refine k_iret 30 C dX1_drawnLines_30 rfl ?_
      exact ⟨rfl, rfl⟩
    · rw [n20 hd.le (Nat.le_trans hj hd.le)] at h9
      refine k_aload_n 12 13 C dX1_drawnLines_12 rfl 2 rfl ?_
      refine k_iload_n 13 14 C dX1_drawnLines_13 rfl 0 rfl ?_
      refine k_callVI 14 17 C [_] [] dX1_drawnLines_14 rfl (ct_X1_width ‹_› ‹_›) mi_X1_width ml_X1_85 im_X1_width se_X1_width ci_X1 (IsDrw.o ‹_›) rfl rfl ⟨Nat.le_of_ble_eq_true rfl, Nat.le_of_ble_eq_true rfl⟩ (Nat.le_of_ble_eq_true rfl) (Nat.zero_le _) (Nat.zero_le _) (fun r14 V14 p14 => ?_)
      obtain ⟨rfl, rfl⟩ := And.intro p14.1.symm p14.2
      refine k_if_le 17 23 20 C dX1_drawnLines_17 (by decide) rfl (fun h17 => ?_) (fun h17 => ?_)
      · refine k_iinc 23 26 C [(2, _), (1, _), (0, _)] (nI (j + 1)) dX1_drawnLines_23 rfl 0 rfl (nI_1 j) (by decide) rfl ?_
        refine k_goto 26 4 C dX1_drawnLines_26 (by decide) ?_
        have h := ih (rn d - (j + 1)) (by omega) (j + 1) rfl (by omega)
        first | (rw [show cntW d (j + 1) = cntW d j from by simp [cntW, i32_not_lt.mpr h17]] at h; exact h) | (rw [show cntW d (j + 1) = cntW d j + 1 from by simp [cntW, i32_not_le.mp h17]] at h; exact h)
      · refine k_iinc 20 23 C [(1, _), (2, _), (0, _)] (nI (cntW d j + 1)) dX1_drawnLines_20 rfl 1 rfl (nI_1 _) (by decide) rfl ?_
        refine k_iinc 23 26 C [(2, _), (1, _), (0, _)] (nI (j + 1)) dX1_drawnLines_23 rfl 1 rfl (nI_1 j) (by decide) rfl ?_
        refine k_goto 26 4 C dX1_drawnLines_26 (by decide) ?_
        have h := ih (rn d - (j + 1)) (by omega) (j + 1) rfl (by omega)
        first | (rw [show cntW d (j + 1) = cntW d j from by simp [cntW, i32_not_lt.mpr h17]] at h; exact h) | (rw [show cntW d (j + 1) = cntW d j + 1 from by simp [cntW, i32_not_le.mp h17]] at h; exact h)
  refine k_iconst 0 1 C dX1_drawnLines_0 rfl (v := 0) rfl ?_
  refine k_istore_n 1 2 C [(1, _), (0, _)] dX1_drawnLines_1 rfl (by decide) rfl ?_
  refine k_iconst 2 3 C dX1_drawnLines_2 rfl (v := 0) rfl ?_
  refine k_istore_n 3 4 C [(2, _), (1, _), (0, _)] dX1_drawnLines_3 rfl (by decide) rfl ?_
  exact loop4 _ 0 rfl (Nat.zero_le _)
set_option maxHeartbeats 4000000 in
set_option maxRecDepth 100000 in
theorem ct_X1_drawnLength {E : gE} {T : gT} {l : Launch} {V : gV} {a : Nat} {d : Dr} (ha : IsDrw T a) (hd : DV V a d) : CtI E T l yX1_drawnLength (gw yX1_drawnLength cX1_drawnLength 3 (some .int)) { frames := 3, cells := 0, slots := 0, locals := 67 } [.ref a] V (fun (r : Int32) (V' : gV) => V' = V ∧ r = sumW d (rn d)) := by
  refine ctI_of (L := [(0, .ref a)]) (by decide) rfl (Nat.le_of_ble_eq_true rfl) rfl (fun p e s m args below meth c C => ?_)
  have loop4 : ∀ (f : Nat) (j : Nat), rn d - j = f → (j ≤ rn d) → KW E T V p l e { frames := 3, cells := 0, slots := 0, locals := 67 } s m args below meth c 3 0 0 (MQ below (va_Qi (fun (r : Int32) (V' : gV) => V' = V ∧ r = sumW d (rn d)) (RepS E T) (gA E)) args s 0 0 (gA E)) 4 [(2, .int (nI j)), (1, .int (sumW d j)), (0, .ref a)] [] := by
    intro f
    induction f using Nat.strongRecOn with
    | _ f ih =>
    intro j hf hj
    refine k_iload_n 4 5 C dX1_drawnLength_4 rfl 0 rfl ?_
    refine k_aload_n 5 6 C dX1_drawnLength_5 rfl 2 rfl ?_
    refine k_get 6 9 C dX1_drawnLength_6 rfl ci_X1 7 fl_X1_34 (IsDrw.o ‹_›) (by decide) rfl ?_
    refine k_rwI (hd.f7) ?_
    refine k_icmp_ge 9 34 12 C dX1_drawnLength_9 (by decide) rfl (fun h9 => ?_) (fun h9 => ?_)
    · rw [n20 hd.le (Nat.le_trans hj hd.le)] at h9
      obtain rfl : j = rn d := by omega
      refine k_iload_n 34 35 C dX1_drawnLength_34 rfl 1 rfl ?_
      refine k_iret 35 C dX1_drawnLength_35 rfl ?_
      exact ⟨rfl, rfl⟩
    · rw [n20 hd.le (Nat.le_trans hj hd.le)] at h9
      refine k_aload_n 12 13 C dX1_drawnLength_12 rfl 2 rfl ?_
      refine k_iload_n 13 14 C dX1_drawnLength_13 rfl 0 rfl ?_
      refine k_callVI 14 17 C [_] [] dX1_drawnLength_14 rfl (ct_X1_width ‹_› ‹_›) mi_X1_width ml_X1_85 im_X1_width se_X1_width ci_X1 (IsDrw.o ‹_›) rfl rfl ⟨Nat.le_of_ble_eq_true rfl, Nat.le_of_ble_eq_true rfl⟩ (Nat.le_of_ble_eq_true rfl) (Nat.zero_le _) (Nat.zero_le _) (fun r14 V14 p14 => ?_)
      obtain ⟨rfl, rfl⟩ := And.intro p14.1.symm p14.2
      refine k_if_le 17 28 20 C dX1_drawnLength_17 (by decide) rfl (fun h17 => ?_) (fun h17 => ?_)
      · refine k_iinc 28 31 C [(2, _), (1, _), (0, _)] (nI (j + 1)) dX1_drawnLength_28 rfl 0 rfl (nI_1 j) (by decide) rfl ?_
        refine k_goto 31 4 C dX1_drawnLength_31 (by decide) ?_
        have h := ih (rn d - (j + 1)) (by omega) (j + 1) rfl (by omega)
        first | (rw [show sumW d (j + 1) = sumW d j from by simp [sumW, i32_not_lt.mpr h17]] at h; exact h) | (rw [show sumW d (j + 1) = sumW d j + vLen d (nI j) from by simp [sumW, i32_not_le.mp h17]] at h; exact h)
      · refine k_iload_n 20 21 C dX1_drawnLength_20 rfl 1 rfl ?_
        refine k_aload_n 21 22 C dX1_drawnLength_21 rfl 2 rfl ?_
        refine k_iload_n 22 23 C dX1_drawnLength_22 rfl 0 rfl ?_
        refine k_callVI 23 26 C [_] [_] dX1_drawnLength_23 rfl (ct_X1_lineLength ‹_› ‹_›) mi_X1_lineLength ml_X1_88 im_X1_lineLength se_X1_lineLength ci_X1 (IsDrw.o ‹_›) rfl rfl ⟨Nat.le_of_ble_eq_true rfl, Nat.le_of_ble_eq_true rfl⟩ (Nat.le_of_ble_eq_true rfl) (Nat.zero_le _) (Nat.zero_le _) (fun r23 V23 p23 => ?_)
        obtain ⟨rfl, rfl⟩ := And.intro p23.1.symm p23.2
        refine k_iadd 26 27 C dX1_drawnLength_26 rfl  ?_
        refine k_istore_n 27 28 C [(1, _), (2, _), (0, _)] dX1_drawnLength_27 rfl (by decide) rfl ?_
        refine k_iinc 28 31 C [(2, _), (1, _), (0, _)] (nI (j + 1)) dX1_drawnLength_28 rfl 1 rfl (nI_1 j) (by decide) rfl ?_
        refine k_goto 31 4 C dX1_drawnLength_31 (by decide) ?_
        have h := ih (rn d - (j + 1)) (by omega) (j + 1) rfl (by omega)
        first | (rw [show sumW d (j + 1) = sumW d j from by simp [sumW, i32_not_lt.mpr h17]] at h; exact h) | (rw [show sumW d (j + 1) = sumW d j + vLen d (nI j) from by simp [sumW, i32_not_le.mp h17]] at h; exact h)
  refine k_iconst 0 1 C dX1_drawnLength_0 rfl (v := 0) rfl ?_
  refine k_istore_n 1 2 C [(1, _), (0, _)] dX1_drawnLength_1 rfl (by decide) rfl ?_
  refine k_iconst 2 3 C dX1_drawnLength_2 rfl (v := 0) rfl ?_
  refine k_istore_n 3 4 C [(2, _), (1, _), (0, _)] dX1_drawnLength_3 rfl (by decide) rfl ?_
  exact loop4 _ 0 rfl (Nat.zero_le _)
set_option maxHeartbeats 4000000 in
set_option maxRecDepth 100000 in
theorem ct_X1_greatestWidth {E : gE} {T : gT} {l : Launch} {V : gV} {a : Nat} {d : Dr} (ha : IsDrw T a) (hd : DV V a d) : CtI E T l yX1_greatestWidth (gw yX1_greatestWidth cX1_greatestWidth 3 (some .int)) { frames := 3, cells := 0, slots := 0, locals := 63 } [.ref a] V (fun (r : Int32) (V' : gV) => V' = V ∧ r = maxW d (rn d)) := by
  refine ctI_of (L := [(0, .ref a)]) (by decide) rfl (Nat.le_of_ble_eq_true rfl) rfl (fun p e s m args below meth c C => ?_)
  have loop4 : ∀ (f : Nat) (j : Nat), rn d - j = f → (j ≤ rn d) → KW E T V p l e { frames := 3, cells := 0, slots := 0, locals := 63 } s m args below meth c 3 0 0 (MQ below (va_Qi (fun (r : Int32) (V' : gV) => V' = V ∧ r = maxW d (rn d)) (RepS E T) (gA E)) args s 0 0 (gA E)) 4 [(2, .int (nI j)), (1, .int (maxW d j)), (0, .ref a)] [] := by
    intro f
    induction f using Nat.strongRecOn with
    | _ f ih =>
    intro j hf hj
    refine k_iload_n 4 5 C dX1_greatestWidth_4 rfl 0 rfl ?_
    refine k_aload_n 5 6 C dX1_greatestWidth_5 rfl 2 rfl ?_
    refine k_get 6 9 C dX1_greatestWidth_6 rfl ci_X1 7 fl_X1_34 (IsDrw.o ‹_›) (by decide) rfl ?_
    refine k_rwI (hd.f7) ?_
    refine k_icmp_ge 9 28 12 C dX1_greatestWidth_9 (by decide) rfl (fun h9 => ?_) (fun h9 => ?_)
    · rw [n20 hd.le (Nat.le_trans hj hd.le)] at h9
      obtain rfl : j = rn d := by omega
      refine k_iload_n 28 29 C dX1_greatestWidth_28 rfl 1 rfl ?_
      refine k_iret 29 C dX1_greatestWidth_29 rfl ?_
      exact ⟨rfl, rfl⟩
    · rw [n20 hd.le (Nat.le_trans hj hd.le)] at h9
      refine k_iload_n 12 13 C dX1_greatestWidth_12 rfl 1 rfl ?_
      refine k_aload_n 13 14 C dX1_greatestWidth_13 rfl 2 rfl ?_
      refine k_iload_n 14 15 C dX1_greatestWidth_14 rfl 0 rfl ?_
      refine k_callVI 15 18 C [_] [_] dX1_greatestWidth_15 rfl (ct_X1_width ‹_› ‹_›) mi_X1_width ml_X1_85 im_X1_width se_X1_width ci_X1 (IsDrw.o ‹_›) rfl rfl ⟨Nat.le_of_ble_eq_true rfl, Nat.le_of_ble_eq_true rfl⟩ (Nat.le_of_ble_eq_true rfl) (Nat.zero_le _) (Nat.zero_le _) (fun r15 V15 p15 => ?_)
      obtain ⟨rfl, rfl⟩ := And.intro p15.1.symm p15.2
      refine k_max 18 21 C dX1_greatestWidth_18 rfl ml_X1_71 (Nat.le_of_ble_eq_true rfl) (Nat.le_of_ble_eq_true rfl) (Nat.zero_le _) (Nat.zero_le _) ?_
      refine k_istore_n 21 22 C [(1, _), (2, _), (0, _)] dX1_greatestWidth_21 rfl (by decide) rfl ?_
      refine k_iinc 22 25 C [(2, _), (1, _), (0, _)] (nI (j + 1)) dX1_greatestWidth_22 rfl 1 rfl (nI_1 j) (by decide) rfl ?_
      refine k_goto 25 4 C dX1_greatestWidth_25 (by decide) ?_
      exact ih (rn d - (j + 1)) (by omega) (j + 1) rfl (by omega)
  refine k_iconst 0 1 C dX1_greatestWidth_0 rfl (v := 0) rfl ?_
  refine k_istore_n 1 2 C [(1, _), (0, _)] dX1_greatestWidth_1 rfl (by decide) rfl ?_
  refine k_iconst 2 3 C dX1_greatestWidth_2 rfl (v := 0) rfl ?_
  refine k_istore_n 3 4 C [(2, _), (1, _), (0, _)] dX1_greatestWidth_3 rfl (by decide) rfl ?_
  exact loop4 _ 0 rfl (Nat.zero_le _)
def dBegin (p : Int32) (sc pt : Int64) : Dr := (p, sc, pt, 1, 1, 0, 0, 0, fun _ => 0, fun _ => 0, fun _ => 0)
def dAdd (d : Dr) (x y : Int64) (l : Int32) : Dr := (rpa d, rsc d, rpt d, rsx d, rsy d, rhx d, rhy d, rn d + 1, va_up (rX d) (rn d) x, va_up (rY d) (rn d) y, va_up (rl d) (rn d) (if rn d = 0 then -1 else l))
def dLine (d : Dr) (j : Nat) (v : Int32) : Dr := (rpa d, rsc d, rpt d, rsx d, rsy d, rhx d, rhy d, rn d, rX d, rY d, va_up (rl d) j v)
theorem DV.line {V : gV} {a : Nat} {d : Dr} (hd : DV V a d) (j : Nat) (v : Int32) : DV (wI V (a + 3) j v) a (dLine d j v) := by
  obtain ⟨h0, h1, h2, h3, h4, h5, h6, h7, h8, h9⟩ := hd
  have e : ∀ k, (wI V (a + 3) j v).1 a k = V.1 a k := fun k => by simp [wI]
  refine ⟨(e 0).trans h0, h1, h2, (e 3).trans h3, (e 4).trans h4, h5, h6, (e 7).trans h7, h8, fun i hi => ⟨(h9 i hi).1, (h9 i hi).2.1, ?_⟩⟩
  have h10 := (h9 i hi).2.2
  by_cases hj : i = j
  · subst hj; simp [wI, upd, rl, dLine, va_up]
  · simp only [wI, upd, rl, dLine, va_up, if_true, hj, if_false]; exact h10
theorem DV.add {V : gV} {a : Nat} {d : Dr} (hd : DV V a d) (hn : rn d < 20) (x y : Int64) (l : Int32) : DV (wI (wI (wL (wL V (a + 1) (rn d) x) (a + 2) (rn d) y) (a + 3) (rn d) (if rn d = 0 then -1 else l)) a 7 (nI (rn d + 1))) a (dAdd d x y l) := by
  obtain ⟨h0, h1, h2, h3, h4, h5, h6, h7, h8, h9⟩ := hd
  refine ⟨?_, ?_, ?_, ?_, ?_, ?_, ?_, ?_, ?_, fun i hi => ?_⟩
  · simp [wI, wL, upd, rpa, dAdd]; exact h0
  · simp [wI, wL, rsc, dAdd]; exact h1
  · simp [wI, wL, rpt, dAdd]; exact h2
  · simp [wI, wL, upd, rsx, dAdd]; exact h3
  · simp [wI, wL, upd, rsy, dAdd]; exact h4
  · simp [wI, wL, rhx, dAdd]; exact h5
  · simp [wI, wL, rhy, dAdd]; exact h6
  · simp [wI, upd, rn, dAdd]
  · show rn d + 1 ≤ 20; omega
  · have hi' : i < rn d + 1 := hi
    by_cases hj : i = rn d
    · subst hj; simp [wI, wL, upd, vp_updL, rX, rY, rl, dAdd, va_up]
    · have h10 := h9 i (by omega)
      simp only [wI, wL, upd, vp_updL, rX, rY, rl, dAdd, va_up, hj, if_false, if_true, show ¬ a + 1 = a from by omega, show ¬ a + 3 = a from by omega, show ¬ a + 1 = a + 2 from by omega, show ¬ a + 2 = a + 1 from by omega]
      exact h10
theorem DV.begin {V : gV} {a : Nat} {p : Int32} {sc pt : Int64} : DV (wI (wL (wL (wI (wI (wL (wL (wI V a 0 p) a 1 sc) a 2 pt) a 3 1) a 4 1) a 5 0) a 6 0) a 7 0) a (dBegin p sc pt) := by
  refine ⟨?_, ?_, ?_, ?_, ?_, ?_, ?_, ?_, ?_, fun i hi => absurd hi (Nat.not_lt_zero i)⟩ <;> simp [wI, wL, upd, vp_updL, rpa, rsc, rpt, rsx, rsy, rhx, rhy, rn, dBegin, nI]
set_option maxHeartbeats 4000000 in
set_option maxRecDepth 100000 in
theorem ct_X1_changeLine {E : gE} {T : gT} {l : Launch} {V : gV} {j : Nat} {v : Int32} {a : Nat} {d : Dr} (ha : IsDrw T a) (hd : DV V a d) (hj : j < rn d) : CtV E T l yX1_changeLine (gw yX1_changeLine cX1_changeLine 3 none) { frames := 1, cells := 0, slots := 0, locals := 21 } [.ref a, .int (nI j), .int v] V (fun (V' : gV) => DV V' a (dLine d j v) ∧ Off V V' a (a + 4)) := by
  refine ctV_of (L := [(0, .ref a), (1, .int (nI j)), (2, .int v)]) (by decide) rfl (Nat.le_of_ble_eq_true rfl) rfl (fun p e s m args below meth c C => ?_)
  refine k_aload_n 0 1 C dX1_changeLine_0 rfl 0 rfl ?_
  refine k_iload_n 1 2 C dX1_changeLine_1 rfl 1 rfl ?_
  refine k_callVI 2 5 C [_] [] dX1_changeLine_2 rfl (ct_X1_has ‹_› ‹_›) mi_X1_has ml_X1_67 im_X1_has se_X1_has ci_X1 (IsDrw.o ‹_›) rfl rfl ⟨Nat.le_of_ble_eq_true rfl, Nat.le_of_ble_eq_true rfl⟩ (Nat.le_of_ble_eq_true rfl) (Nat.zero_le _) (Nat.zero_le _) (fun r2 V2 p2 => ?_)
  obtain ⟨rfl, rfl⟩ := And.intro p2.1.symm p2.2
  refine k_ifb_eq 5 24 8 C dX1_changeLine_5 (by decide) rfl (fun h5 => ?_) (fun h5 => ?_)
  · exact absurd ⟨nI_pos (by have := hd.le; omega), by rw [n20 hd.le (by have := hd.le; omega)]; omega⟩ h5
  · refine k_iload_n 8 9 C dX1_changeLine_8 rfl 1 rfl ?_
    refine k_aload_n 9 10 C dX1_changeLine_9 rfl 0 rfl ?_
    refine k_getF 10 13 C dX1_changeLine_10 rfl ci_X1 10 fl_X1_44 (IsDrw.o ‹_›) (by decide) (IsDrw.f10 ‹_›) rfl ?_
    refine k_alen 13 14 C dX1_changeLine_13 rfl (IsDrw.a10 ‹_›) (by decide) (v := 20) rfl ?_
    refine k_icmp_ge 14 24 17 C dX1_changeLine_14 (by decide) rfl (fun h14 => ?_) (fun h14 => ?_)
    · exact absurd h14 (v_idx hd.le h5).2
    · refine k_aload_n 17 18 C dX1_changeLine_17 rfl 0 rfl ?_
      refine k_getF 18 21 C dX1_changeLine_18 rfl ci_X1 10 fl_X1_44 (IsDrw.o ‹_›) (by decide) (IsDrw.f10 ‹_›) rfl ?_
      refine k_iload_n 21 22 C dX1_changeLine_21 rfl 1 rfl ?_
      refine k_iload_n 22 23 C dX1_changeLine_22 rfl 2 rfl ?_
      refine k_iast 23 24 C dX1_changeLine_23 rfl (IsDrw.a10 ‹_›) (vp_in_nI (by have := hd.le; omega) (by decide)) ?_
      rw [nI_clamp (by have := hd.le; omega)]
      refine k_vret 24 C dX1_changeLine_24 rfl ?_
      exact ⟨hd.line j v, by repeat (first | exact Off.rf | refine Off.wI ?_ (by omega) (by omega) | refine Off.wL ?_ (by omega) (by omega) | refine Off.wR ?_ (by omega) (by omega))⟩
set_option maxHeartbeats 4000000 in
set_option maxRecDepth 100000 in
theorem ct_X1_begin {E : gE} {T : gT} {l : Launch} {V : gV} {a : Nat} {pa : Int32} {sc pt : Int64} (ha : IsDrw T a) : CtV E T l yX1_begin (gw yX1_begin cX1_begin 6 none) { frames := 0, cells := 0, slots := 0, locals := 0 } [.ref a, .int pa, .long sc, .long pt] V (fun (V' : gV) => DV V' a (dBegin pa sc pt) ∧ Off V V' a (a + 4)) := by
  refine ctV_of (L := [(0, .ref a), (1, .int pa), (2, .long sc), (4, .long pt)]) (by decide) rfl (Nat.le_of_ble_eq_true rfl) rfl (fun p e s m args below meth c C => ?_)
  refine k_aload_n 0 1 C dX1_begin_0 rfl 0 rfl ?_
  refine k_iload_n 1 2 C dX1_begin_1 rfl 1 rfl ?_
  refine k_put 2 5 C dX1_begin_2 rfl ci_X1 0 fl_X1_9 (IsDrw.o ‹_›) (by decide) rfl rfl rfl wI_off (ps_1_0 _ _ _ _) ?_
  refine k_aload_n 5 6 C dX1_begin_5 rfl 0 rfl ?_
  refine k_lload_n 6 7 C dX1_begin_6 rfl 2 rfl ?_
  refine k_put 7 10 C dX1_begin_7 rfl ci_X1 1 fl_X1_15 (IsDrw.o ‹_›) (by decide) rfl rfl rfl wL_off (ps_1_1 _ _ _ _) ?_
  refine k_aload_n 10 11 C dX1_begin_10 rfl 0 rfl ?_
  refine k_lload 11 13 C dX1_begin_11 rfl 3 rfl ?_
  refine k_put 13 16 C dX1_begin_13 rfl ci_X1 2 fl_X1_19 (IsDrw.o ‹_›) (by decide) rfl rfl rfl wL_off (ps_1_2 _ _ _ _) ?_
  refine k_aload_n 16 17 C dX1_begin_16 rfl 0 rfl ?_
  refine k_iconst 17 18 C dX1_begin_17 rfl (v := 1) rfl ?_
  refine k_put 18 21 C dX1_begin_18 rfl ci_X1 3 fl_X1_22 (IsDrw.o ‹_›) (by decide) rfl rfl rfl wI_off (ps_1_3 _ _ _ _) ?_
  refine k_aload_n 21 22 C dX1_begin_21 rfl 0 rfl ?_
  refine k_iconst 22 23 C dX1_begin_22 rfl (v := 1) rfl ?_
  refine k_put 23 26 C dX1_begin_23 rfl ci_X1 4 fl_X1_25 (IsDrw.o ‹_›) (by decide) rfl rfl rfl wI_off (ps_1_4 _ _ _ _) ?_
  refine k_aload_n 26 27 C dX1_begin_26 rfl 0 rfl ?_
  refine k_lconst 27 28 C dX1_begin_27 rfl (v := 0) rfl ?_
  refine k_put 28 31 C dX1_begin_28 rfl ci_X1 5 fl_X1_28 (IsDrw.o ‹_›) (by decide) rfl rfl rfl wL_off (ps_1_5 _ _ _ _) ?_
  refine k_aload_n 31 32 C dX1_begin_31 rfl 0 rfl ?_
  refine k_lconst 32 33 C dX1_begin_32 rfl (v := 0) rfl ?_
  refine k_put 33 36 C dX1_begin_33 rfl ci_X1 6 fl_X1_31 (IsDrw.o ‹_›) (by decide) rfl rfl rfl wL_off (ps_1_6 _ _ _ _) ?_
  refine k_aload_n 36 37 C dX1_begin_36 rfl 0 rfl ?_
  refine k_iconst 37 38 C dX1_begin_37 rfl (v := 0) rfl ?_
  refine k_put 38 41 C dX1_begin_38 rfl ci_X1 7 fl_X1_34 (IsDrw.o ‹_›) (by decide) rfl rfl rfl wI_off (ps_1_7 _ _ _ _) ?_
  refine k_vret 41 C dX1_begin_41 rfl ?_
  exact ⟨DV.begin, by repeat (first | exact Off.rf | refine Off.wI ?_ (by omega) (by omega) | refine Off.wL ?_ (by omega) (by omega) | refine Off.wR ?_ (by omega) (by omega))⟩
theorem v_size {n : Nat} (hn : n < 20) : ¬ (20 : Int32) ≤ nI n := fun z => by
  have z' : nI 20 ≤ nI n := z
  rw [nI_leI (by omega) (by omega)] at z'
  omega
set_option maxHeartbeats 4000000 in
set_option maxRecDepth 100000 in
theorem ct_X1_add {E : gE} {T : gT} {l : Launch} {V : gV} {x y : Int64} {v : Int32} {a : Nat} {d : Dr} (ha : IsDrw T a) (hd : DV V a d) (hn : rn d < 20) : CtV E T l yX1_add (gw yX1_add cX1_add 6 none) { frames := 0, cells := 0, slots := 0, locals := 0 } [.ref a, .long x, .long y, .int v] V (fun (V' : gV) => DV V' a (dAdd d x y v) ∧ Off V V' a (a + 4)) := by
  refine ctV_of (L := [(0, .ref a), (1, .long x), (3, .long y), (5, .int v)]) (by decide) rfl (Nat.le_of_ble_eq_true rfl) rfl (fun p e s m args below meth c C => ?_)
  refine k_aload_n 0 1 C dX1_add_0 rfl 0 rfl ?_
  refine k_get 1 4 C dX1_add_1 rfl ci_X1 7 fl_X1_34 (IsDrw.o ‹_›) (by decide) rfl ?_
  refine k_rwI (hd.f7) ?_
  refine k_if_lt 4 95 7 C dX1_add_4 (by decide) rfl (fun h4 => ?_) (fun h4 => ?_)
  · exact absurd h4 (nI_pos (by omega))
  · refine k_aload_n 7 8 C dX1_add_7 rfl 0 rfl ?_
    refine k_get 8 11 C dX1_add_8 rfl ci_X1 7 fl_X1_34 (IsDrw.o ‹_›) (by decide) rfl ?_
    refine k_rwI (hd.f7) ?_
    refine k_aload_n 11 12 C dX1_add_11 rfl 0 rfl ?_
    refine k_getF 12 15 C dX1_add_12 rfl ci_X1 8 fl_X1_37 (IsDrw.o ‹_›) (by decide) (IsDrw.f8 ‹_›) rfl ?_
    refine k_alen 15 16 C dX1_add_15 rfl (IsDrw.a8 ‹_›) (by decide) (v := 20) rfl ?_
    refine k_icmp_ge 16 95 19 C dX1_add_16 (by decide) rfl (fun h16 => ?_) (fun h16 => ?_)
    · exact absurd h16 (v_size hn)
    · refine k_aload_n 19 20 C dX1_add_19 rfl 0 rfl ?_
      refine k_get 20 23 C dX1_add_20 rfl ci_X1 7 fl_X1_34 (IsDrw.o ‹_›) (by decide) rfl ?_
      refine k_rwI (hd.f7) ?_
      refine k_aload_n 23 24 C dX1_add_23 rfl 0 rfl ?_
      refine k_getF 24 27 C dX1_add_24 rfl ci_X1 9 fl_X1_41 (IsDrw.o ‹_›) (by decide) (IsDrw.f9 ‹_›) rfl ?_
      refine k_alen 27 28 C dX1_add_27 rfl (IsDrw.a9 ‹_›) (by decide) (v := 20) rfl ?_
      refine k_icmp_ge 28 95 31 C dX1_add_28 (by decide) rfl (fun h28 => ?_) (fun h28 => ?_)
      · exact absurd h28 (v_size hn)
      · refine k_aload_n 31 32 C dX1_add_31 rfl 0 rfl ?_
        refine k_get 32 35 C dX1_add_32 rfl ci_X1 7 fl_X1_34 (IsDrw.o ‹_›) (by decide) rfl ?_
        refine k_rwI (hd.f7) ?_
        refine k_aload_n 35 36 C dX1_add_35 rfl 0 rfl ?_
        refine k_getF 36 39 C dX1_add_36 rfl ci_X1 10 fl_X1_44 (IsDrw.o ‹_›) (by decide) (IsDrw.f10 ‹_›) rfl ?_
        refine k_alen 39 40 C dX1_add_39 rfl (IsDrw.a10 ‹_›) (by decide) (v := 20) rfl ?_
        refine k_icmp_ge 40 95 43 C dX1_add_40 (by decide) rfl (fun h40 => ?_) (fun h40 => ?_)
        · exact absurd h40 (v_size hn)
        · refine k_aload_n 43 44 C dX1_add_43 rfl 0 rfl ?_
          refine k_getF 44 47 C dX1_add_44 rfl ci_X1 8 fl_X1_37 (IsDrw.o ‹_›) (by decide) (IsDrw.f8 ‹_›) rfl ?_
          refine k_aload_n 47 48 C dX1_add_47 rfl 0 rfl ?_
          refine k_get 48 51 C dX1_add_48 rfl ci_X1 7 fl_X1_34 (IsDrw.o ‹_›) (by decide) rfl ?_
          refine k_rwI (hd.f7) ?_
          refine k_lload_n 51 52 C dX1_add_51 rfl 1 rfl ?_
          refine k_last 52 53 C dX1_add_52 rfl (IsDrw.a8 ‹_›) (vp_in_nI hn (by decide)) ?_
          rw [nI_clamp (show rn d < 2 ^ 31 by omega)]
          refine k_aload_n 53 54 C dX1_add_53 rfl 0 rfl ?_
          refine k_getF 54 57 C dX1_add_54 rfl ci_X1 9 fl_X1_41 (IsDrw.o ‹_›) (by decide) (IsDrw.f9 ‹_›) rfl ?_
          refine k_aload_n 57 58 C dX1_add_57 rfl 0 rfl ?_
          refine k_get 58 61 C dX1_add_58 rfl ci_X1 7 fl_X1_34 (IsDrw.o ‹_›) (by decide) rfl ?_
          refine k_rwI (hd.f7) ?_
          refine k_lload_n 61 62 C dX1_add_61 rfl 2 rfl ?_
          refine k_last 62 63 C dX1_add_62 rfl (IsDrw.a9 ‹_›) (vp_in_nI hn (by decide)) ?_
          rw [nI_clamp (show rn d < 2 ^ 31 by omega)]
          refine k_aload_n 63 64 C dX1_add_63 rfl 0 rfl ?_
          refine k_getF 64 67 C dX1_add_64 rfl ci_X1 10 fl_X1_44 (IsDrw.o ‹_›) (by decide) (IsDrw.f10 ‹_›) rfl ?_
          refine k_aload_n 67 68 C dX1_add_67 rfl 0 rfl ?_
          refine k_get 68 71 C dX1_add_68 rfl ci_X1 7 fl_X1_34 (IsDrw.o ‹_›) (by decide) rfl ?_
          refine k_rwI (hd.f7) ?_
          refine k_aload_n 71 72 C dX1_add_71 rfl 0 rfl ?_
          refine k_get 72 75 C dX1_add_72 rfl ci_X1 7 fl_X1_34 (IsDrw.o ‹_›) (by decide) rfl ?_
          refine k_rwI (hd.f7) ?_
          refine k_if_ne 75 82 78 C dX1_add_75 (by decide) rfl (fun h75 => ?_) (fun h75 => ?_)
          · have hz : ¬ rn d = 0 := fun z => h75 (by rw [z]; rfl)
            refine k_iload 82 84 C dX1_add_82 rfl 3 rfl ?_
            refine k_iast 84 85 C dX1_add_84 rfl (IsDrw.a10 ‹_›) (vp_in_nI hn (by decide)) ?_
            rw [nI_clamp (show rn d < 2 ^ 31 by omega)]
            refine k_aload_n 85 86 C dX1_add_85 rfl 0 rfl ?_
            refine k_dup 86 87 C dX1_add_86 rfl rfl ?_
            refine k_get 87 90 C dX1_add_87 rfl ci_X1 7 fl_X1_34 (IsDrw.o ‹_›) (by decide) rfl ?_
            refine k_rwI (y := nI (rn d)) (by simp [wI, wL]; exact hd.f7) ?_
            refine k_iconst 90 91 C dX1_add_90 rfl (v := 1) rfl ?_
            refine k_iadd 91 92 C dX1_add_91 rfl  ?_
            refine k_put 92 95 C dX1_add_92 rfl ci_X1 7 fl_X1_34 (IsDrw.o ‹_›) (by decide) rfl rfl rfl wI_off (ps_1_7 _ _ _ _) ?_
            refine k_vret 95 C dX1_add_95 rfl ?_
            refine ⟨?_, by repeat (first | exact Off.rf | refine Off.wI ?_ (by omega) (by omega) | refine Off.wL ?_ (by omega) (by omega) | refine Off.wR ?_ (by omega) (by omega))⟩
            have h := hd.add hn x y v
            rw [← nI_1] at h
            simp only [hz, if_true, if_false] at h
            first | exact h | (simp only [hz] ; exact h)
          · have hz : rn d = 0 := (nI_eq (by omega) (by decide)).mp (h75 : nI (rn d) = nI 0)
            refine k_iconst 78 79 C dX1_add_78 rfl (v := (-1)) rfl ?_
            refine k_goto 79 84 C dX1_add_79 (by decide) ?_
            refine k_iast 84 85 C dX1_add_84 rfl (IsDrw.a10 ‹_›) (vp_in_nI hn (by decide)) ?_
            rw [nI_clamp (show rn d < 2 ^ 31 by omega)]
            refine k_aload_n 85 86 C dX1_add_85 rfl 0 rfl ?_
            refine k_dup 86 87 C dX1_add_86 rfl rfl ?_
            refine k_get 87 90 C dX1_add_87 rfl ci_X1 7 fl_X1_34 (IsDrw.o ‹_›) (by decide) rfl ?_
            refine k_rwI (y := nI (rn d)) (by simp [wI, wL]; exact hd.f7) ?_
            refine k_iconst 90 91 C dX1_add_90 rfl (v := 1) rfl ?_
            refine k_iadd 91 92 C dX1_add_91 rfl  ?_
            refine k_put 92 95 C dX1_add_92 rfl ci_X1 7 fl_X1_34 (IsDrw.o ‹_›) (by decide) rfl rfl rfl wI_off (ps_1_7 _ _ _ _) ?_
            refine k_vret 95 C dX1_add_95 rfl ?_
            refine ⟨?_, by repeat (first | exact Off.rf | refine Off.wI ?_ (by omega) (by omega) | refine Off.wL ?_ (by omega) (by omega) | refine Off.wR ?_ (by omega) (by omega))⟩
            have h := hd.add hn x y v
            rw [← nI_1] at h
            simp only [hz, if_true, if_false] at h
            first | exact h | (simp only [hz] ; exact h)

