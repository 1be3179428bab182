theorem orgF_out {S : Dk} {k : Nat} {a : Int32} (h : ¬ (¬ a < 0 ∧ ¬ nI (kn S) ≤ a)) : orgF S (k + 1) a = a := by
  simp only [orgF]; rw [if_neg (fun z => h z.1)]
theorem jin {n j : Nat} (hn : n ≤ 6) (hj : j < n) : ¬ nI j < 0 ∧ ¬ nI n ≤ nI j := ⟨nI_pos (by omega), by rw [n6 (by omega) (by omega)]; omega⟩
theorem orgF_org {S : Dk} {k j : Nat} (h : rpa (kdr S j) = -1) (hj : j < 6) : orgF S (k + 1) (nI j) = nI j := by
  simp only [orgF]; rw [nI_clamp (show j < 2 ^ 31 by omega)]; rw [if_neg (fun z => z.2 h)]
theorem orgF_cp {S : Dk} {k j : Nat} (hn : kn S ≤ 6) (hj : j < kn S) (h : ¬ rpa (kdr S j) = -1) : orgF S (k + 1) (nI j) = orgF S k (rpa (kdr S j)) := by
  simp only [orgF]; rw [nI_clamp (show j < 2 ^ 31 by omega)]; rw [if_pos ⟨jin hn hj, h⟩]
theorem stpF_out {S : Dk} {k i : Nat} {a : Int32} (h : ¬ (¬ a < 0 ∧ ¬ nI (kn S) ≤ a)) : stpF S (k + 1) i a = nI i := by
  simp only [stpF]; rw [if_neg (fun z => h z.1)]
theorem stpF_org {S : Dk} {k i j : Nat} (h : rpa (kdr S j) = -1) (hj : j < 6) : stpF S (k + 1) i (nI j) = nI i := by
  simp only [stpF]; rw [nI_clamp (show j < 2 ^ 31 by omega)]; rw [if_neg (fun z => z.2 h)]
theorem stpF_cp {S : Dk} {k i j : Nat} (hn : kn S ≤ 6) (hj : j < kn S) (h : ¬ rpa (kdr S j) = -1) : stpF S (k + 1) i (nI j) = stpF S k (i + 1) (rpa (kdr S j)) := by
  simp only [stpF]; rw [nI_clamp (show j < 2 ^ 31 by omega)]; rw [if_pos ⟨jin hn hj, h⟩]
theorem DK.grow {V : gV} {D : Nat} {S : Dk} {π : Nat → Nat} {d' : Dr} (h : DK V D S π) (hn : kn S < 6) (hd : DV V (D + 3 + 4 * π (kn S)) d') (hw : dW d') : DK (wI V D 11 (nI (kn S + 1))) D (kf S, ks S, kn S + 1, va_up (kdr S) (kn S) d') π := by
  obtain ⟨h1, h2, h3, h4, h5, h6, h7⟩ := h
  have ho : ∀ b, b ≠ D → (wI V D 11 (nI (kn S + 1))).1 b = V.1 b := fun b hb => (wI_off b hb).1
  have hoff : Off V (wI V D 11 (nI (kn S + 1))) D (D + 1) := Off.rf.wI (Nat.le_refl D) (by omega)
  refine ⟨fun i a b => ?_, fun i a => by rw [ho (D + 1) (by omega)]; exact h2 i a, ?_, by show kn S + 1 ≤ 6; omega, h5, h6, fun k a => ?_⟩
  · show (wI V D 11 _).1 D i = kf S i
    simp only [wI, upd, if_true, show ¬ i = 11 by omega, if_false]; exact h1 i a b
  · show (wI V D 11 _).1 D 11 = nI (kn S + 1)
    simp [wI, upd]
  · have a' : k < kn S + 1 := a
    by_cases ek : k = kn S
    · subst ek
      show DV _ _ (va_up _ _ _ _) ∧ dW (va_up _ _ _ _)
      rw [va_up_self]
      exact ⟨hd.off hoff (by omega), hw⟩
    · show DV _ _ (va_up _ _ _ _) ∧ dW (va_up _ _ _ _)
      rw [va_up_ne _ _ ek]
      exact ⟨(h7 k (by omega)).1.off hoff (by omega), (h7 k (by omega)).2⟩
/-- one line of a copy that is kept: the desk, the drawing -/
def lnS (S : Dk) (d : Dr) (i : Nat) : Dk := if vL d (nI i) = -1 then S else if ¬ (onB S d (nI i - 1) = true ∧ onB S d (nI i) = true) then (va_up (kf S) 9 (kf S 9 + 1), ks S, kn S, kdr S) else (va_up (va_up (va_up (kf S) 5 (kf S 5 + vLen d (nI i))) 7 (kf S 7 + 1)) 8 (kf S 8 + vLen d (nI i)), ks S, kn S, kdr S)
def lnD (S : Dk) (d : Dr) (i : Nat) : Dr := if vL d (nI i) = -1 then d else if ¬ (onB S d (nI i - 1) = true ∧ onB S d (nI i) = true) then d else dLine d i (if 9 < sWorn S then 9 else sWorn S)
def lnAll (S : Dk) (d : Dr) : Nat → Dk × Dr
  | 0 => (S, d)
  | i + 1 => (lnS (lnAll S d i).1 (lnAll S d i).2 i, lnD (lnAll S d i).1 (lnAll S d i).2 i)
set_option maxHeartbeats 4000000 in
set_option maxRecDepth 100000 in
theorem ct_X0_originalOf {E : gE} {T : gT} {l : Launch} {V : gV} {num : Int32} {D : Nat} {S : Dk} {π : Nat → Nat} (hD : IsDsk T D) (hk : DK V D S π) : CtI E T l yX0_originalOf (gw yX0_originalOf cX0_originalOf 5 (some .int)) { frames := 1, cells := 0, slots := 0, locals := 21 } [.ref D, .int num] V (fun (r : Int32) (V' : gV) => V' = V ∧ r = orgF S 6 num) := by
  refine ctI_of (L := [(0, .ref D), (1, .int num)]) (by decide) rfl (Nat.le_of_ble_eq_true rfl) rfl (fun p e s m args below meth c C => ?_)
  have loop4 : ∀ (f : Nat) (i : Nat) (at_ : Int32), 6 - i = f → (i ≤ 6) → (orgF S (6 - i) at_ = orgF S 6 num) → KW E T V p l e { frames := 1, cells := 0, slots := 0, locals := 21 } s m args below meth c 5 0 0 (MQ below (va_Qi (fun (r : Int32) (V' : gV) => V' = V ∧ r = orgF S 6 num) (RepS E T) (gA E)) args s 0 0 (gA E)) 4 [(3, .int (nI i)), (2, .int at_), (0, .ref D), (1, .int num)] [] := by
    intro f
    induction f using Nat.strongRecOn with
    | _ f ih =>
    intro i at_ hf hi hg
    refine k_iload_n 4 5 C dX0_originalOf_4 rfl 0 rfl ?_
    refine k_bipush 5 7 C dX0_originalOf_5 rfl (v := 6) rfl ?_
    refine k_icmp_ge 7 44 10 C dX0_originalOf_7 (by decide) rfl (fun h7 => ?_) (fun h7 => ?_)
    · have z7 : nI 6 ≤ nI i := h7
      rw [n6 (by omega) (by omega)] at z7
      obtain rfl : i = 6 := by omega
      refine k_iload_n 44 45 C dX0_originalOf_44 rfl 1 rfl ?_
      refine k_iret 45 C dX0_originalOf_45 rfl ?_
      exact ⟨rfl, hg⟩
    · have z7 : ¬ nI 6 ≤ nI i := h7
      rw [n6 (by omega) (by omega)] at z7
      rw [show 6 - i = (6 - (i + 1)) + 1 by omega] at hg
      refine k_aload_n 10 11 C dX0_originalOf_10 rfl 2 rfl ?_
      refine k_iload_n 11 12 C dX0_originalOf_11 rfl 1 rfl ?_
      refine k_callVQ 12 15 C [_] [] dX0_originalOf_12 rfl (ct_X0_find hD hk) mi_X0_find ml_X0_60 im_X0_find se_X0_find ci_X0 (IsDsk.o ‹_›) rfl rfl ⟨Nat.le_of_ble_eq_true rfl, Nat.le_of_ble_eq_true rfl⟩ (Nat.le_of_ble_eq_true rfl) (Nat.zero_le _) (Nat.zero_le _) (fun r12 V12 p12 => ?_)
      obtain ⟨rfl, rfl⟩ := And.intro p12.1.symm p12.2
      rcases sFind_cases D S π hk.le at_ with ⟨zc, zr⟩ | ⟨zj, zl, rfl, zr⟩
      · refine k_rwQ zr ?_
        refine k_astoreq 15 17 C [(4, _), (3, _), (2, _), (0, _), (1, _)] dX0_originalOf_15 rfl (by decide) rfl ?_
        refine k_aloadq 17 19 C dX0_originalOf_17 rfl 0 rfl ?_
        refine k_ifnullN 19 30 C dX0_originalOf_19 (by decide) ?_
        refine k_iload_n 30 31 C dX0_originalOf_30 rfl 2 rfl ?_
        refine k_iret 31 C dX0_originalOf_31 rfl ?_
        first | exact ⟨rfl, (orgF_out zc).symm.trans hg⟩ | exact ⟨rfl, (orgF_org (Classical.not_not.mp h27) (by have := hk.le; omega)).symm.trans hg⟩
      · refine k_rwQ zr ?_
        have zq := hD.d (π zj) (hk.p zj (by have := hk.le; omega))
        have zv := hk.d zj zl
        refine k_astore 15 17 C [(4, _), (3, _), (2, _), (0, _), (1, _)] dX0_originalOf_15 rfl (by decide) rfl ?_
        refine k_aload 17 19 C dX0_originalOf_17 rfl 0 rfl ?_
        refine k_ifnullO 19 22 C dX0_originalOf_19 rfl ?_
        refine k_aload 22 24 C dX0_originalOf_22 rfl 0 rfl ?_
        refine k_callVI 24 27 C [] [] dX0_originalOf_24 rfl (ct_X1_isCopy zq zv) mi_X1_isCopy ml_X0_79 im_X1_isCopy se_X1_isCopy ci_X1 (IsDrw.o zq) rfl rfl ⟨Nat.le_of_ble_eq_true rfl, Nat.le_of_ble_eq_true rfl⟩ (Nat.le_of_ble_eq_true rfl) (Nat.zero_le _) (Nat.zero_le _) (fun r24 V24 p24 => ?_)
        obtain ⟨rfl, rfl⟩ := And.intro p24.1.symm p24.2
        refine k_ifb_ne 27 32 30 C dX0_originalOf_27 (by decide) rfl (fun h27 => ?_) (fun h27 => ?_)
        · refine k_aload 32 34 C dX0_originalOf_32 rfl 0 rfl ?_
          refine k_getN 34 37 C dX0_originalOf_34 rfl ci_X1 0 fn_X0_76 (IsDrw.o zq) (by decide) rfl ?_
          refine k_rwI (zv.f0) ?_
          refine k_istore_n 37 38 C [(2, _), (4, _), (3, _), (0, _), (1, _)] dX0_originalOf_37 rfl (by decide) rfl ?_
          refine k_iinc 38 41 C [(3, _), (2, _), (4, _), (0, _), (1, _)] (nI (i + 1)) dX0_originalOf_38 rfl 2 rfl (nI_1 i) (by decide) rfl ?_
          refine k_goto 41 4 C dX0_originalOf_41 (by decide) ?_
          refine k_perm [0, 1, 3, 4] (L' := [(3, _), (2, _), (0, _), (1, _)]) rfl ?_
          exact ih (6 - (i + 1)) (by omega) (i + 1) (rpa (kdr S zj)) rfl (by omega) ((orgF_cp hk.le zl h27).symm.trans hg)
        · refine k_iload_n 30 31 C dX0_originalOf_30 rfl 2 rfl ?_
          refine k_iret 31 C dX0_originalOf_31 rfl ?_
          first | exact ⟨rfl, (orgF_out zc).symm.trans hg⟩ | exact ⟨rfl, (orgF_org (Classical.not_not.mp h27) (by have := hk.le; omega)).symm.trans hg⟩
  refine k_iload_n 0 1 C dX0_originalOf_0 rfl 1 rfl ?_
  refine k_istore_n 1 2 C [(2, _), (0, _), (1, _)] dX0_originalOf_1 rfl (by decide) rfl ?_
  refine k_iconst 2 3 C dX0_originalOf_2 rfl (v := 0) rfl ?_
  refine k_istore_n 3 4 C [(3, _), (2, _), (0, _), (1, _)] dX0_originalOf_3 rfl (by decide) rfl ?_
  exact loop4 _ 0 num rfl (Nat.zero_le _) rfl
set_option maxHeartbeats 4000000 in
set_option maxRecDepth 100000 in
theorem ct_X0_stepsOf {E : gE} {T : gT} {l : Launch} {V : gV} {num : Int32} {D : Nat} {S : Dk} {π : Nat → Nat} (hD : IsDsk T D) (hk : DK V D S π) : CtI E T l yX0_stepsOf (gw yX0_stepsOf cX0_stepsOf 5 (some .int)) { frames := 1, cells := 0, slots := 0, locals := 21 } [.ref D, .int num] V (fun (r : Int32) (V' : gV) => V' = V ∧ r = stpF S 6 0 num) := by
  refine ctI_of (L := [(0, .ref D), (1, .int num)]) (by decide) rfl (Nat.le_of_ble_eq_true rfl) rfl (fun p e s m args below meth c C => ?_)
  have loop4 : ∀ (f : Nat) (i : Nat) (at_ : Int32), 6 - i = f → (i ≤ 6) → (stpF S (6 - i) i at_ = stpF S 6 0 num) → KW E T V p l e { frames := 1, cells := 0, slots := 0, locals := 21 } s m args below meth c 5 0 0 (MQ below (va_Qi (fun (r : Int32) (V' : gV) => V' = V ∧ r = stpF S 6 0 num) (RepS E T) (gA E)) args s 0 0 (gA E)) 4 [(3, .int (nI i)), (2, .int at_), (0, .ref D), (1, .int num)] [] := by
    intro f
    induction f using Nat.strongRecOn with
    | _ f ih =>
    intro i at_ hf hi hg
    refine k_iload_n 4 5 C dX0_stepsOf_4 rfl 0 rfl ?_
    refine k_bipush 5 7 C dX0_stepsOf_5 rfl (v := 6) rfl ?_
    refine k_icmp_ge 7 44 10 C dX0_stepsOf_7 (by decide) rfl (fun h7 => ?_) (fun h7 => ?_)
    · have z7 : nI 6 ≤ nI i := h7
      rw [n6 (by omega) (by omega)] at z7
      obtain rfl : i = 6 := by omega
      refine k_bipush 44 46 C dX0_stepsOf_44 rfl (v := 6) rfl ?_
      refine k_iret 46 C dX0_stepsOf_46 rfl ?_
      exact ⟨rfl, hg⟩
    · have z7 : ¬ nI 6 ≤ nI i := h7
      rw [n6 (by omega) (by omega)] at z7
      rw [show 6 - i = (6 - (i + 1)) + 1 by omega] at hg
      refine k_aload_n 10 11 C dX0_stepsOf_10 rfl 2 rfl ?_
      refine k_iload_n 11 12 C dX0_stepsOf_11 rfl 1 rfl ?_
      refine k_callVQ 12 15 C [_] [] dX0_stepsOf_12 rfl (ct_X0_find hD hk) mi_X0_find ml_X0_60 im_X0_find se_X0_find ci_X0 (IsDsk.o ‹_›) rfl rfl ⟨Nat.le_of_ble_eq_true rfl, Nat.le_of_ble_eq_true rfl⟩ (Nat.le_of_ble_eq_true rfl) (Nat.zero_le _) (Nat.zero_le _) (fun r12 V12 p12 => ?_)
      obtain ⟨rfl, rfl⟩ := And.intro p12.1.symm p12.2
      rcases sFind_cases D S π hk.le at_ with ⟨zc, zr⟩ | ⟨zj, zl, rfl, zr⟩
      · refine k_rwQ zr ?_
        refine k_astoreq 15 17 C [(4, _), (3, _), (2, _), (0, _), (1, _)] dX0_stepsOf_15 rfl (by decide) rfl ?_
        refine k_aloadq 17 19 C dX0_stepsOf_17 rfl 0 rfl ?_
        refine k_ifnullN 19 30 C dX0_stepsOf_19 (by decide) ?_
        refine k_iload_n 30 31 C dX0_stepsOf_30 rfl 1 rfl ?_
        refine k_iret 31 C dX0_stepsOf_31 rfl ?_
        first | exact ⟨rfl, (stpF_out zc).symm.trans hg⟩ | exact ⟨rfl, (stpF_org (Classical.not_not.mp h27) (by have := hk.le; omega)).symm.trans hg⟩
      · refine k_rwQ zr ?_
        have zq := hD.d (π zj) (hk.p zj (by have := hk.le; omega))
        have zv := hk.d zj zl
        refine k_astore 15 17 C [(4, _), (3, _), (2, _), (0, _), (1, _)] dX0_stepsOf_15 rfl (by decide) rfl ?_
        refine k_aload 17 19 C dX0_stepsOf_17 rfl 0 rfl ?_
        refine k_ifnullO 19 22 C dX0_stepsOf_19 rfl ?_
        refine k_aload 22 24 C dX0_stepsOf_22 rfl 0 rfl ?_
        refine k_callVI 24 27 C [] [] dX0_stepsOf_24 rfl (ct_X1_isCopy zq zv) mi_X1_isCopy ml_X0_79 im_X1_isCopy se_X1_isCopy ci_X1 (IsDrw.o zq) rfl rfl ⟨Nat.le_of_ble_eq_true rfl, Nat.le_of_ble_eq_true rfl⟩ (Nat.le_of_ble_eq_true rfl) (Nat.zero_le _) (Nat.zero_le _) (fun r24 V24 p24 => ?_)
        obtain ⟨rfl, rfl⟩ := And.intro p24.1.symm p24.2
        refine k_ifb_ne 27 32 30 C dX0_stepsOf_27 (by decide) rfl (fun h27 => ?_) (fun h27 => ?_)
        · refine k_aload 32 34 C dX0_stepsOf_32 rfl 0 rfl ?_
          refine k_getN 34 37 C dX0_stepsOf_34 rfl ci_X1 0 fn_X0_76 (IsDrw.o zq) (by decide) rfl ?_
          refine k_rwI (zv.f0) ?_
          refine k_istore_n 37 38 C [(2, _), (4, _), (3, _), (0, _), (1, _)] dX0_stepsOf_37 rfl (by decide) rfl ?_
          refine k_iinc 38 41 C [(3, _), (2, _), (4, _), (0, _), (1, _)] (nI (i + 1)) dX0_stepsOf_38 rfl 2 rfl (nI_1 i) (by decide) rfl ?_
          refine k_goto 41 4 C dX0_stepsOf_41 (by decide) ?_
          refine k_perm [0, 1, 3, 4] (L' := [(3, _), (2, _), (0, _), (1, _)]) rfl ?_
          exact ih (6 - (i + 1)) (by omega) (i + 1) (rpa (kdr S zj)) rfl (by omega) ((stpF_cp hk.le zl h27).symm.trans hg)
        · refine k_iload_n 30 31 C dX0_stepsOf_30 rfl 1 rfl ?_
          refine k_iret 31 C dX0_stepsOf_31 rfl ?_
          first | exact ⟨rfl, (stpF_out zc).symm.trans hg⟩ | exact ⟨rfl, (stpF_org (Classical.not_not.mp h27) (by have := hk.le; omega)).symm.trans hg⟩
  refine k_iload_n 0 1 C dX0_stepsOf_0 rfl 1 rfl ?_
  refine k_istore_n 1 2 C [(2, _), (0, _), (1, _)] dX0_stepsOf_1 rfl (by decide) rfl ?_
  refine k_iconst 2 3 C dX0_stepsOf_2 rfl (v := 0) rfl ?_
  refine k_istore_n 3 4 C [(3, _), (2, _), (0, _), (1, _)] dX0_stepsOf_3 rfl (by decide) rfl ?_
  exact loop4 _ 0 num rfl (Nat.zero_le _) rfl
set_option maxHeartbeats 4000000 in
set_option maxRecDepth 100000 in
theorem ct_X0_isOnBoard {E : gE} {T : gT} {l : Launch} {V : gV} {i : Int32} {D a : Nat} {S : Dk} {π : Nat → Nat} {d : Dr} (hD : IsDsk T D) (hk : DK V D S π) (ha : IsDrw T a) (hd : DV V a d) : CtI E T l yX0_isOnBoard (gw yX0_isOnBoard cX0_isOnBoard 7 (some .boolean)) { frames := 2, cells := 0, slots := 0, locals := 42 } [.ref D, .ref a, .int i] V (fun (r : Int32) (V' : gV) => V' = V ∧ r = bi (onB S d i = true)) := by
  refine ctI_of (L := [(0, .ref D), (1, .ref a), (2, .int i)]) (by decide) rfl (Nat.le_of_ble_eq_true rfl) rfl (fun p e s m args below meth c C => ?_)
  refine k_aload_n 0 1 C dX0_isOnBoard_0 rfl 1 rfl ?_
  refine k_iload_n 1 2 C dX0_isOnBoard_1 rfl 2 rfl ?_
  refine k_callVL 2 5 C [_] [] dX0_isOnBoard_2 rfl (ct_X1_x ha hd) mi_X1_x ml_X0_83 im_X1_x se_X1_x ci_X1 (IsDrw.o ha) rfl rfl ⟨Nat.le_of_ble_eq_true rfl, Nat.le_of_ble_eq_true rfl⟩ (Nat.le_of_ble_eq_true rfl) (Nat.zero_le _) (Nat.zero_le _) (fun r2 V2 p2 => ?_)
  obtain ⟨rfl, rfl⟩ := And.intro p2.1.symm p2.2
  refine k_lstore_n 5 6 C [(3, _), (0, _), (1, _), (2, _)] dX0_isOnBoard_5 rfl (by decide) rfl ?_
  refine k_aload_n 6 7 C dX0_isOnBoard_6 rfl 2 rfl ?_
  refine k_iload_n 7 8 C dX0_isOnBoard_7 rfl 3 rfl ?_
  refine k_callVL 8 11 C [_] [] dX0_isOnBoard_8 rfl (ct_X1_y ha hd) mi_X1_y ml_X0_87 im_X1_y se_X1_y ci_X1 (IsDrw.o ha) rfl rfl ⟨Nat.le_of_ble_eq_true rfl, Nat.le_of_ble_eq_true rfl⟩ (Nat.le_of_ble_eq_true rfl) (Nat.zero_le _) (Nat.zero_le _) (fun r8 V8 p8 => ?_)
  obtain ⟨rfl, rfl⟩ := And.intro p8.1.symm p8.2
  refine k_lstore 11 13 C [(5, _), (3, _), (0, _), (1, _), (2, _)] dX0_isOnBoard_11 rfl (by decide) rfl ?_
  refine k_lload_n 13 14 C dX0_isOnBoard_13 rfl 1 rfl ?_
  refine k_lconst 14 15 C dX0_isOnBoard_14 rfl (v := 0) rfl ?_
  refine k_lcmp_lt 15 16 63 19 C dX0_isOnBoard_15 rfl dX0_isOnBoard_16 (by decide) rfl (fun h16 => ?_) (fun h16 => ?_)
  · refine k_iconst 63 64 C dX0_isOnBoard_63 rfl (v := 0) rfl ?_
    refine k_zret 64 C dX0_isOnBoard_64 rfl (by first | exact Or.inl rfl | exact Or.inr rfl | exact bi_01) ?_
    first | exact ⟨rfl, (bi_t (by simp [onB, h16])).symm⟩ | exact ⟨rfl, (bi_f (by simp [onB, h16])).symm⟩
  · refine k_lload_n 19 20 C dX0_isOnBoard_19 rfl 1 rfl ?_
    refine k_aload_n 20 21 C dX0_isOnBoard_20 rfl 2 rfl ?_
    refine k_iconst 21 22 C dX0_isOnBoard_21 rfl (v := 2) rfl ?_
    refine k_callVI 22 25 C [_] [_] dX0_isOnBoard_22 rfl (ct_X0_setting hD hk) mi_X0_setting ml_X0_56 im_X0_setting se_X0_setting ci_X0 (IsDsk.o ‹_›) rfl rfl ⟨Nat.le_of_ble_eq_true rfl, Nat.le_of_ble_eq_true rfl⟩ (Nat.le_of_ble_eq_true rfl) (Nat.zero_le _) (Nat.zero_le _) (fun r22 V22 p22 => ?_)
    obtain ⟨rfl, rfl⟩ := And.intro p22.1.symm p22.2
    refine k_rwI (show sSet S 2 = ks S 2 from rfl) ?_
    refine k_i2l 25 26 C dX0_isOnBoard_25 rfl  ?_
    refine k_aload_n 26 27 C dX0_isOnBoard_26 rfl 3 rfl ?_
    refine k_getN 27 30 C dX0_isOnBoard_27 rfl ci_X1 2 fn_X0_90 (IsDrw.o ha) (by decide) rfl ?_
    refine k_rwL (hd.f2) ?_
    refine k_lmul 30 31 C dX0_isOnBoard_30 rfl  ?_
    refine k_lcmp_gt 31 32 63 35 C dX0_isOnBoard_31 rfl dX0_isOnBoard_32 (by decide) rfl (fun h32 => ?_) (fun h32 => ?_)
    · refine k_iconst 63 64 C dX0_isOnBoard_63 rfl (v := 0) rfl ?_
      refine k_zret 64 C dX0_isOnBoard_64 rfl (by first | exact Or.inl rfl | exact Or.inr rfl | exact bi_01) ?_
      first | exact ⟨rfl, (bi_t (by simp [onB, h16, h32])).symm⟩ | exact ⟨rfl, (bi_f (by simp [onB, h16, h32])).symm⟩
    · refine k_lload 35 37 C dX0_isOnBoard_35 rfl 0 rfl ?_
      refine k_lconst 37 38 C dX0_isOnBoard_37 rfl (v := 0) rfl ?_
      refine k_lcmp_lt 38 39 63 42 C dX0_isOnBoard_38 rfl dX0_isOnBoard_39 (by decide) rfl (fun h39 => ?_) (fun h39 => ?_)
      · refine k_iconst 63 64 C dX0_isOnBoard_63 rfl (v := 0) rfl ?_
        refine k_zret 64 C dX0_isOnBoard_64 rfl (by first | exact Or.inl rfl | exact Or.inr rfl | exact bi_01) ?_
        first | exact ⟨rfl, (bi_t (by simp [onB, h16, h32, h39])).symm⟩ | exact ⟨rfl, (bi_f (by simp [onB, h16, h32, h39])).symm⟩
      · refine k_lload 42 44 C dX0_isOnBoard_42 rfl 0 rfl ?_
        refine k_aload_n 44 45 C dX0_isOnBoard_44 rfl 2 rfl ?_
        refine k_iconst 45 46 C dX0_isOnBoard_45 rfl (v := 3) rfl ?_
        refine k_callVI 46 49 C [_] [_] dX0_isOnBoard_46 rfl (ct_X0_setting hD hk) mi_X0_setting ml_X0_56 im_X0_setting se_X0_setting ci_X0 (IsDsk.o ‹_›) rfl rfl ⟨Nat.le_of_ble_eq_true rfl, Nat.le_of_ble_eq_true rfl⟩ (Nat.le_of_ble_eq_true rfl) (Nat.zero_le _) (Nat.zero_le _) (fun r46 V46 p46 => ?_)
        obtain ⟨rfl, rfl⟩ := And.intro p46.1.symm p46.2
        refine k_rwI (show sSet S 3 = ks S 3 from rfl) ?_
        refine k_i2l 49 50 C dX0_isOnBoard_49 rfl  ?_
        refine k_aload_n 50 51 C dX0_isOnBoard_50 rfl 3 rfl ?_
        refine k_getN 51 54 C dX0_isOnBoard_51 rfl ci_X1 2 fn_X0_90 (IsDrw.o ha) (by decide) rfl ?_
        refine k_rwL (hd.f2) ?_
        refine k_lmul 54 55 C dX0_isOnBoard_54 rfl  ?_
        refine k_lcmp_gt 55 56 63 59 C dX0_isOnBoard_55 rfl dX0_isOnBoard_56 (by decide) rfl (fun h56 => ?_) (fun h56 => ?_)
        · refine k_iconst 63 64 C dX0_isOnBoard_63 rfl (v := 0) rfl ?_
          refine k_zret 64 C dX0_isOnBoard_64 rfl (by first | exact Or.inl rfl | exact Or.inr rfl | exact bi_01) ?_
          first | exact ⟨rfl, (bi_t (by simp [onB, h16, h32, h39, h56])).symm⟩ | exact ⟨rfl, (bi_f (by simp [onB, h16, h32, h39, h56])).symm⟩
        · refine k_iconst 59 60 C dX0_isOnBoard_59 rfl (v := 1) rfl ?_
          refine k_goto 60 64 C dX0_isOnBoard_60 (by decide) ?_
          refine k_zret 64 C dX0_isOnBoard_64 rfl (by first | exact Or.inl rfl | exact Or.inr rfl | exact bi_01) ?_
          first | exact ⟨rfl, (bi_t (by simp [onB, h16, h32, h39, h56])).symm⟩ | exact ⟨rfl, (bi_f (by simp [onB, h16, h32, h39, h56])).symm⟩
set_option maxHeartbeats 4000000 in
set_option maxRecDepth 100000 in
theorem ct_X0_pointsOffBoard {E : gE} {T : gT} {l : Launch} {V : gV} {D a : Nat} {S : Dk} {π : Nat → Nat} {d : Dr} (hD : IsDsk T D) (hk : DK V D S π) (ha : IsDrw T a) (hd : DV V a d) : CtI E T l yX0_pointsOffBoard (gw yX0_pointsOffBoard cX0_pointsOffBoard 4 (some .int)) { frames := 3, cells := 0, slots := 0, locals := 68 } [.ref D, .ref a] V (fun (r : Int32) (V' : gV) => V' = V ∧ r = nI (offB S d (rn d))) := by
  refine ctI_of (L := [(0, .ref D), (1, .ref a)]) (by decide) rfl (Nat.le_of_ble_eq_true rfl) rfl (fun p e s m args below meth c C => ?_)
  have loop4 : ∀ (f : Nat) (j : Nat), rn d - j = f → (j ≤ rn d) → KW E T V p l e { frames := 3, cells := 0, slots := 0, locals := 68 } s m args below meth c 4 0 0 (MQ below (va_Qi (fun (r : Int32) (V' : gV) => V' = V ∧ r = nI (offB S d (rn d))) (RepS E T) (gA E)) args s 0 0 (gA E)) 4 [(3, .int (nI j)), (2, .int (nI (offB S d j))), (0, .ref D), (1, .ref a)] [] := by
    intro f
    induction f using Nat.strongRecOn with
    | _ f ih =>
    intro j hf hj
    refine k_iload_n 4 5 C dX0_pointsOffBoard_4 rfl 0 rfl ?_
    refine k_aload_n 5 6 C dX0_pointsOffBoard_5 rfl 3 rfl ?_
    refine k_getN 6 9 C dX0_pointsOffBoard_6 rfl ci_X1 7 fn_X0_94 (IsDrw.o ha) (by decide) rfl ?_
    refine k_rwI (hd.f7) ?_
    refine k_icmp_ge 9 30 12 C dX0_pointsOffBoard_9 (by decide) rfl (fun h9 => ?_) (fun h9 => ?_)
    · rw [n20 hd.le (Nat.le_trans hj hd.le)] at h9
      obtain rfl : j = rn d := by omega
      refine k_iload_n 30 31 C dX0_pointsOffBoard_30 rfl 1 rfl ?_
      refine k_iret 31 C dX0_pointsOffBoard_31 rfl ?_
      exact ⟨rfl, rfl⟩
    · rw [n20 hd.le (Nat.le_trans hj hd.le)] at h9
      refine k_aload_n 12 13 C dX0_pointsOffBoard_12 rfl 2 rfl ?_
      refine k_aload_n 13 14 C dX0_pointsOffBoard_13 rfl 3 rfl ?_
      refine k_iload_n 14 15 C dX0_pointsOffBoard_14 rfl 0 rfl ?_
      refine k_callVI 15 18 C [_, _] [] dX0_pointsOffBoard_15 rfl (ct_X0_isOnBoard hD hk ha hd) mi_X0_isOnBoard ml_X0_95 im_X0_isOnBoard se_X0_isOnBoard ci_X0 (IsDsk.o ‹_›) rfl rfl ⟨Nat.le_of_ble_eq_true rfl, Nat.le_of_ble_eq_true rfl⟩ (Nat.le_of_ble_eq_true rfl) (Nat.zero_le _) (Nat.zero_le _) (fun r15 V15 p15 => ?_)
      obtain ⟨rfl, rfl⟩ := And.intro p15.1.symm p15.2
      refine k_ifb_ne 18 24 21 C dX0_pointsOffBoard_18 (by decide) rfl (fun h18 => ?_) (fun h18 => ?_)
      · refine k_iinc 24 27 C [(3, _), (2, _), (0, _), (1, _)] (nI (j + 1)) dX0_pointsOffBoard_24 rfl 0 rfl (nI_1 j) (by decide) rfl ?_
        refine k_goto 27 4 C dX0_pointsOffBoard_27 (by decide) ?_
        have zh := ih (rn d - (j + 1)) (by omega) (j + 1) rfl (by omega)
        first | (rw [show offB S d (j + 1) = offB S d j from by simp [offB, h18]] at zh; exact zh) | (rw [show offB S d (j + 1) = offB S d j + 1 from by simp [offB, h18]] at zh; exact zh)
      · refine k_iinc 21 24 C [(2, _), (3, _), (0, _), (1, _)] (nI (offB S d j + 1)) dX0_pointsOffBoard_21 rfl 1 rfl (nI_1 _) (by decide) rfl ?_
        refine k_iinc 24 27 C [(3, _), (2, _), (0, _), (1, _)] (nI (j + 1)) dX0_pointsOffBoard_24 rfl 1 rfl (nI_1 j) (by decide) rfl ?_
        refine k_goto 27 4 C dX0_pointsOffBoard_27 (by decide) ?_
        have zh := ih (rn d - (j + 1)) (by omega) (j + 1) rfl (by omega)
        first | (rw [show offB S d (j + 1) = offB S d j from by simp [offB, h18]] at zh; exact zh) | (rw [show offB S d (j + 1) = offB S d j + 1 from by simp [offB, h18]] at zh; exact zh)
  refine k_iconst 0 1 C dX0_pointsOffBoard_0 rfl (v := 0) rfl ?_
  refine k_istore_n 1 2 C [(2, _), (0, _), (1, _)] dX0_pointsOffBoard_1 rfl (by decide) rfl ?_
  refine k_iconst 2 3 C dX0_pointsOffBoard_2 rfl (v := 0) rfl ?_
  refine k_istore_n 3 4 C [(3, _), (2, _), (0, _), (1, _)] dX0_pointsOffBoard_3 rfl (by decide) rfl ?_
  exact loop4 _ 0 rfl (Nat.zero_le _)
set_option maxHeartbeats 4000000 in
set_option maxRecDepth 100000 in
theorem ct_X0_beginOriginal {E : gE} {T : gT} {l : Launch} {V : gV} {D : Nat} {S : Dk} {π : Nat → Nat} (hD : IsDsk T D) (hk : DK V D S π) (hn : kn S < 6) : CtI E T l yX0_beginOriginal (gw yX0_beginOriginal cX0_beginOriginal 2 (some .int)) { frames := 1, cells := 0, slots := 0, locals := 25 } [.ref D] V (fun (r : Int32) (V' : gV) => r = nI (kn S) ∧ DK V' D (kf S, ks S, kn S + 1, va_up (kdr S) (kn S) (dBegin (-1) 1 1)) π ∧ Off V V' D (D + 27)) := by
  refine ctI_of (L := [(0, .ref D)]) (by decide) rfl (Nat.le_of_ble_eq_true rfl) rfl (fun p e s m args below meth c C => ?_)
  refine k_aload_n 0 1 C dX0_beginOriginal_0 rfl 0 rfl ?_
  refine k_callVQ 1 4 C [] [] dX0_beginOriginal_1 rfl (ct_X0_spare hD hk) mi_X0_spare ml_X0_68 im_X0_spare se_X0_spare ci_X0 (IsDsk.o ‹_›) rfl rfl ⟨Nat.le_of_ble_eq_true rfl, Nat.le_of_ble_eq_true rfl⟩ (Nat.le_of_ble_eq_true rfl) (Nat.zero_le _) (Nat.zero_le _) (fun r1 V1 p1 => ?_)
  obtain ⟨rfl, rfl⟩ := And.intro p1.1.symm p1.2
  refine k_rwQ (if_pos hn) ?_
  have zp := hk.p _ hn
  have zq := hD.d _ zp
  refine k_astore_n 4 5 C [(1, _), (0, _)] dX0_beginOriginal_4 rfl (by decide) rfl ?_
  refine k_aload_n 5 6 C dX0_beginOriginal_5 rfl 0 rfl ?_
  refine k_ifnonnullO 6 11 C dX0_beginOriginal_6 (by decide) ?_
  refine k_aload_n 11 12 C dX0_beginOriginal_11 rfl 0 rfl ?_
  refine k_iconst 12 13 C dX0_beginOriginal_12 rfl (v := (-1)) rfl ?_
  refine k_lconst 13 14 C dX0_beginOriginal_13 rfl (v := 1) rfl ?_
  refine k_lconst 14 15 C dX0_beginOriginal_14 rfl (v := 1) rfl ?_
  refine k_callVV 15 18 C [_, _, _] [] dX0_beginOriginal_15 rfl (ct_X1_begin zq) mi_X1_begin ml_X0_72 im_X1_begin se_X1_begin ci_X1 (IsDrw.o zq) rfl rfl ⟨Nat.le_of_ble_eq_true rfl, Nat.le_of_ble_eq_true rfl⟩ (Nat.le_of_ble_eq_true rfl) (Nat.zero_le _) (Nat.zero_le _) (fun V15 p15 => ?_)
  obtain ⟨z1, z2⟩ := p15
  have zk := hk.spare hn (Nat.le_refl _) z2
  refine k_aload_n 18 19 C dX0_beginOriginal_18 rfl 1 rfl ?_
  refine k_dup 19 20 C dX0_beginOriginal_19 rfl rfl ?_
  refine k_get 20 23 C dX0_beginOriginal_20 rfl ci_X0 11 fl_X0_52 (IsDsk.o ‹_›) (by decide) rfl ?_
  refine k_rwI (zk.n) ?_
  refine k_iconst 23 24 C dX0_beginOriginal_23 rfl (v := 1) rfl ?_
  refine k_iadd 24 25 C dX0_beginOriginal_24 rfl  ?_
  refine k_rwI (nI_1 _) ?_
  refine k_put 25 28 C dX0_beginOriginal_25 rfl ci_X0 11 fl_X0_52 (IsDsk.o ‹_›) (by decide) rfl rfl rfl wI_off (ps_0_11 _ _ _ _) ?_
  have zg := zk.grow hn z1 (fun zz => absurd zz (Nat.not_lt_zero _))
  have zo := (z2.wide (lo' := D) (hi' := D + 27) (by omega) (by omega)).wI (a := D) (k := 11) (x := nI (kn S + 1)) (Nat.le_refl D) (by omega)
  refine k_aload_n 28 29 C dX0_beginOriginal_28 rfl 1 rfl ?_
  refine k_get 29 32 C dX0_beginOriginal_29 rfl ci_X0 11 fl_X0_52 (IsDsk.o ‹_›) (by decide) rfl ?_
  refine k_rwI (zg.n) ?_
  refine k_iconst 32 33 C dX0_beginOriginal_32 rfl (v := 1) rfl ?_
  refine k_isub 33 34 C dX0_beginOriginal_33 rfl  ?_
  refine k_rwI (y := nI (kn S)) (by show nI (kn S + 1) - nI 1 = _; rw [pk_sub (by omega)]; rfl) ?_
  refine k_iret 34 C dX0_beginOriginal_34 rfl ?_
  exact ⟨rfl, zg, zo⟩

