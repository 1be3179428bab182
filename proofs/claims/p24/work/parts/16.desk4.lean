set_option maxHeartbeats 4000000 in
set_option maxRecDepth 100000 in
theorem ct_X0_reasonAgainst {E : gE} {T : gT} {l : Launch} {V : gV} {D j0 : Nat} {S : Dk} {π : Nat → Nat} {num : Int32} (hD : IsDsk T D) (hk : DK V D S π) (hj : j0 < kn S) : CtI E T l yX0_reasonAgainst (gw yX0_reasonAgainst cX0_reasonAgainst 4 (some .int)) { frames := 4, cells := 0, slots := 0, locals := 93 } [.ref D, .int num, .ref (D + 3 + 4 * π j0)] V (fun (r : Int32) (V' : gV) => r = rsn S num (kdr S j0) ∧ DK V' D S π ∧ Off V V' D (D + 27) ∧ (r = 0 → kn S < 6 ∧ DV V' (D + 3 + 4 * π (kn S)) (trD S num (kdr S j0)))) := by
  refine ctI_of (L := [(0, .ref D), (1, .int num), (2, .ref (D + 3 + 4 * π j0))]) (by decide) rfl (Nat.le_of_ble_eq_true rfl) rfl (fun p e s m args below meth c C => ?_)
  have zk6 := hk.le
  have hb := hD.d _ (hk.p j0 (by omega))
  have hd := hk.d j0 hj
  have hw := hk.w j0 hj
  refine k_aload_n 0 1 C dX0_reasonAgainst_0 rfl 2 rfl ?_
  refine k_getN 1 4 C dX0_reasonAgainst_1 rfl ci_X1 7 fn_X0_94 (IsDrw.o hb) (by decide) rfl ?_
  refine k_rwI (hd.f7) ?_
  refine k_iconst 4 5 C dX0_reasonAgainst_4 rfl (v := 1) rfl ?_
  refine k_icmp_ge 5 10 8 C dX0_reasonAgainst_5 (by decide) rfl (fun h5 => ?_) (fun h5 => ?_)
  · have z5 : nI 1 ≤ nI (rn (kdr S j0)) := h5
    rw [n20 (by omega) hd.le] at z5
    have z6 : ¬ rn (kdr S j0) < 1 := by omega
    refine k_aload_n 10 11 C dX0_reasonAgainst_10 rfl 0 rfl ?_
    refine k_callVI 11 14 C [] [] dX0_reasonAgainst_11 rfl (ct_X0_isBlunt hD hk) mi_X0_isBlunt ml_X0_124 im_X0_isBlunt se_X0_isBlunt ci_X0 (IsDsk.o ‹_›) rfl rfl ⟨Nat.le_of_ble_eq_true rfl, Nat.le_of_ble_eq_true rfl⟩ (Nat.le_of_ble_eq_true rfl) (Nat.zero_le _) (Nat.zero_le _) (fun r11 V11 p11 => ?_)
    obtain ⟨rfl, rfl⟩ := And.intro p11.1.symm p11.2
    refine k_ifb_eq 14 19 17 C dX0_reasonAgainst_14 (by decide) rfl (fun h14 => ?_) (fun h14 => ?_)
    · refine k_aload_n 19 20 C dX0_reasonAgainst_19 rfl 0 rfl ?_
      refine k_callVQ 20 23 C [] [] dX0_reasonAgainst_20 rfl (ct_X0_spare hD hk) mi_X0_spare ml_X0_68 im_X0_spare se_X0_spare ci_X0 (IsDsk.o ‹_›) rfl rfl ⟨Nat.le_of_ble_eq_true rfl, Nat.le_of_ble_eq_true rfl⟩ (Nat.le_of_ble_eq_true rfl) (Nat.zero_le _) (Nat.zero_le _) (fun r20 V20 p20 => ?_)
      obtain ⟨rfl, rfl⟩ := And.intro p20.1.symm p20.2
      rcases Nat.lt_or_ge (kn S) 6 with zl | zl
      · refine k_rwQ (if_pos zl) ?_
        have zq := hD.d _ (hk.p _ zl)
        have zne : π (kn S) ≠ π j0 := fun zz => by have := hk.inj _ _ zl (by omega) zz; omega
        refine k_astore_n 23 24 C [(3, _), (0, _), (1, _), (2, _)] dX0_reasonAgainst_23 rfl (by decide) rfl ?_
        refine k_aload_n 24 25 C dX0_reasonAgainst_24 rfl 0 rfl ?_
        refine k_ifnonnullO 25 30 C dX0_reasonAgainst_25 (by decide) ?_
        refine k_aload_n 30 31 C dX0_reasonAgainst_30 rfl 1 rfl ?_
        refine k_iload_n 31 32 C dX0_reasonAgainst_31 rfl 2 rfl ?_
        refine k_aload_n 32 33 C dX0_reasonAgainst_32 rfl 3 rfl ?_
        refine k_aload_n 33 34 C dX0_reasonAgainst_33 rfl 0 rfl ?_
        refine k_callVV 34 37 C [_, _, _] [] dX0_reasonAgainst_34 rfl (ct_X0_trace hD hk zl rfl hb hd hw (by omega)) mi_X0_trace ml_X0_127 im_X0_trace se_X0_trace ci_X0 (IsDsk.o ‹_›) rfl rfl ⟨Nat.le_of_ble_eq_true rfl, Nat.le_of_ble_eq_true rfl⟩ (Nat.le_of_ble_eq_true rfl) (Nat.zero_le _) (Nat.zero_le _) (fun V34 p34 => ?_)
        obtain ⟨z1, z2⟩ := p34
        have zk := hk.spare zl (Nat.le_refl _) z2
        have zo := z2.wide (lo' := D) (hi' := D + 27) (by omega) (by have := hk.p _ zl; omega)
        refine k_aload_n 37 38 C dX0_reasonAgainst_37 rfl 0 rfl ?_
        refine k_callVI 38 41 C [] [] dX0_reasonAgainst_38 rfl (ct_X1_isTooFine zq z1) mi_X1_isTooFine ml_X0_131 im_X1_isTooFine se_X1_isTooFine ci_X1 (IsDrw.o zq) rfl rfl ⟨Nat.le_of_ble_eq_true rfl, Nat.le_of_ble_eq_true rfl⟩ (Nat.le_of_ble_eq_true rfl) (Nat.zero_le _) (Nat.zero_le _) (fun r38 V38 p38 => ?_)
        obtain ⟨rfl, rfl⟩ := And.intro p38.1.symm p38.2
        refine k_ifb_eq 41 48 44 C dX0_reasonAgainst_41 (by decide) rfl (fun h41 => ?_) (fun h41 => ?_)
        · refine k_iconst 48 49 C dX0_reasonAgainst_48 rfl (v := 0) rfl ?_
          refine k_iret 49 C dX0_reasonAgainst_49 rfl ?_
          first | exact ⟨by unfold rsn; rw [if_neg z6, if_neg h14, if_neg (Classical.not_not.mpr zl), if_pos h41], zk, zo, fun zz => absurd zz (by decide)⟩ | exact ⟨by unfold rsn; rw [if_neg z6, if_neg h14, if_neg (Classical.not_not.mpr zl), if_neg h41], zk, zo, fun _ => ⟨zl, z1⟩⟩
        · refine k_iconst 44 45 C dX0_reasonAgainst_44 rfl (v := 4) rfl ?_
          refine k_goto 45 49 C dX0_reasonAgainst_45 (by decide) ?_
          refine k_iret 49 C dX0_reasonAgainst_49 rfl ?_
          first | exact ⟨by unfold rsn; rw [if_neg z6, if_neg h14, if_neg (Classical.not_not.mpr zl), if_pos h41], zk, zo, fun zz => absurd zz (by decide)⟩ | exact ⟨by unfold rsn; rw [if_neg z6, if_neg h14, if_neg (Classical.not_not.mpr zl), if_neg h41], zk, zo, fun _ => ⟨zl, z1⟩⟩
      · refine k_rwQ (if_neg (Nat.not_lt.mpr zl)) ?_
        refine k_astore_nq 23 24 C [(3, _), (0, _), (1, _), (2, _)] dX0_reasonAgainst_23 rfl (by decide) rfl ?_
        refine k_aload_nq 24 25 C dX0_reasonAgainst_24 rfl 0 rfl ?_
        refine k_ifnonnullN 25 28 C dX0_reasonAgainst_25 rfl ?_
        refine k_iconst 28 29 C dX0_reasonAgainst_28 rfl (v := 3) rfl ?_
        refine k_iret 29 C dX0_reasonAgainst_29 rfl ?_
        exact ⟨by unfold rsn; rw [if_neg z6, if_neg h14, if_pos (Nat.not_lt.mpr zl)], hk, Off.rf, fun zz => absurd zz (by decide)⟩
    · refine k_iconst 17 18 C dX0_reasonAgainst_17 rfl (v := 2) rfl ?_
      refine k_iret 18 C dX0_reasonAgainst_18 rfl ?_
      exact ⟨by unfold rsn; rw [if_neg z6, if_pos h14], hk, Off.rf, fun zz => absurd zz (by decide)⟩
  · have z5 : ¬ nI 1 ≤ nI (rn (kdr S j0)) := h5
    rw [n20 (by omega) hd.le] at z5
    have z6 : rn (kdr S j0) < 1 := by omega
    refine k_iconst 8 9 C dX0_reasonAgainst_8 rfl (v := 1) rfl ?_
    refine k_iret 9 C dX0_reasonAgainst_9 rfl ?_
    exact ⟨by unfold rsn; rw [if_pos z6], hk, Off.rf, fun zz => absurd zz (by decide)⟩
def DKr (V : gV) (D : Nat) (π : Nat → Nat) : Prop := (∀ j, j < 6 → π j < 6 ∧ V.2.2 (D + 2) j = some (D + 3 + 4 * π j)) ∧ ∀ i j, i < 6 → j < 6 → π i = π j → i = j
theorem DK.rows {V : gV} {D : Nat} {S : Dk} {π : Nat → Nat} (h : DK V D S π) : DKr V D π := ⟨h.2.2.2.2.1, h.2.2.2.2.2.1⟩
def sFn (D n : Nat) (π : Nat → Nat) (i : Int32) : Option Nat := if ¬ i < 0 ∧ ¬ nI n ≤ i then some (D + 3 + 4 * π i.toNatClampNeg) else none
theorem sFn_at {D n : Nat} {π : Nat → Nat} {j : Nat} (hn : n ≤ 6) (hj : j < n) : sFn D n π (nI j) = some (D + 3 + 4 * π j) := by
  unfold sFn
  rw [if_pos ⟨nI_pos (by omega), by rw [n6 (by omega) (by omega)]; omega⟩, nI_clamp (by omega)]
theorem sFn_out {D n : Nat} {π : Nat → Nat} {i : Int32} (h : ¬ (¬ i < 0 ∧ ¬ nI n ≤ i)) : sFn D n π i = none := if_neg h
set_option maxHeartbeats 4000000 in
set_option maxRecDepth 100000 in
theorem ct_X0_findb {E : gE} {T : gT} {l : Launch} {V : gV} {i : Int32} {D n : Nat} {π : Nat → Nat} (hD : IsDsk T D) (hr : DKr V D π) (hz : V.1 D 11 = nI n) (hn : n ≤ 6) : CtQ E T l yX0_find (gw yX0_find cX0_find 2 (some (.object "PantographArm$Drawing"))) { frames := 0, cells := 0, slots := 0, locals := 0 } [.ref D, .int i] V (fun (r : Option Nat) (V' : gV) => V' = V ∧ r = sFn D n π i) := by
  refine ctQ_of (L := [(0, .ref D), (1, .int i)]) (by decide) rfl (Nat.le_of_ble_eq_true rfl) rfl (fun p e s m args below meth c C => ?_)
  refine k_iload_n 0 1 C dX0_find_0 rfl 1 rfl ?_
  refine k_if_lt 1 30 4 C dX0_find_1 (by decide) rfl (fun h1 => ?_) (fun h1 => ?_)
  · refine k_null 30 31 C dX0_find_30 rfl  ?_
    refine k_aret 31 C (x := none) dX0_find_31 rfl (Or.inl ⟨_, rfl⟩) ?_
    first | exact ⟨rfl, (sFn_out (fun z => z.1 h1)).symm⟩ | exact ⟨rfl, (sFn_out (fun z => z.2 h9)).symm⟩ | exact ⟨rfl, by unfold sFn; rw [if_pos ⟨h1, h9⟩, nI_clamp hj]⟩
  · refine k_iload_n 4 5 C dX0_find_4 rfl 1 rfl ?_
    refine k_aload_n 5 6 C dX0_find_5 rfl 0 rfl ?_
    refine k_get 6 9 C dX0_find_6 rfl ci_X0 11 fl_X0_52 (IsDsk.o ‹_›) (by decide) rfl ?_
    refine k_rwI (hz) ?_
    refine k_icmp_ge 9 30 12 C dX0_find_9 (by decide) rfl (fun h9 => ?_) (fun h9 => ?_)
    · refine k_null 30 31 C dX0_find_30 rfl  ?_
      refine k_aret 31 C (x := none) dX0_find_31 rfl (Or.inl ⟨_, rfl⟩) ?_
      first | exact ⟨rfl, (sFn_out (fun z => z.1 h1)).symm⟩ | exact ⟨rfl, (sFn_out (fun z => z.2 h9)).symm⟩ | exact ⟨rfl, by unfold sFn; rw [if_pos ⟨h1, h9⟩, nI_clamp hj]⟩
    · obtain ⟨j, hj, rfl⟩ := nI_of h1
      have h9b := h9
      rw [nI_leI (by omega) hj] at h9b
      have hj6 : j < 6 := by omega
      refine k_iload_n 12 13 C dX0_find_12 rfl 1 rfl ?_
      refine k_aload_n 13 14 C dX0_find_13 rfl 0 rfl ?_
      refine k_getF 14 17 C dX0_find_14 rfl ci_X0 10 fl_X0_48 (IsDsk.o ‹_›) (by decide) (IsDsk.f10 ‹_›) rfl ?_
      refine k_alen 17 18 C dX0_find_17 rfl (IsDsk.a10 ‹_›) (by decide) (v := 6) rfl ?_
      refine k_icmp_ge 18 30 21 C dX0_find_18 (by decide) rfl (fun h18 => ?_) (fun h18 => ?_)
      · exact absurd (show nI 6 ≤ nI j from h18) (by rw [nI_leI (by omega) (by omega)]; omega)
      · refine k_aload_n 21 22 C dX0_find_21 rfl 0 rfl ?_
        refine k_getF 22 25 C dX0_find_22 rfl ci_X0 10 fl_X0_48 (IsDsk.o ‹_›) (by decide) (IsDsk.f10 ‹_›) rfl ?_
        refine k_iload_n 25 26 C dX0_find_25 rfl 1 rfl ?_
        refine k_aald2 26 27 C dX0_find_26 rfl (IsDsk.a10 ‹_›) (vp_in_nI hj6 (by decide)) ?_
        rw [nI_clamp hj]
        refine k_rwQ (hr.1 j hj6).2 ?_
        refine k_goto 27 31 C dX0_find_27 (by decide) ?_
        refine k_aret 31 C dX0_find_31 rfl (Or.inl ⟨_, rfl⟩) ?_
        first | exact ⟨rfl, (sFn_out (fun z => z.1 h1)).symm⟩ | exact ⟨rfl, (sFn_out (fun z => z.2 h9)).symm⟩ | exact ⟨rfl, by unfold sFn; rw [if_pos ⟨h1, h9⟩, nI_clamp hj]⟩
def DKp (V : gV) (D : Nat) (S : Dk) (π : Nat → Nat) (m : Nat) : Prop := (∀ j, j < 10 → j ≠ 4 → V.1 D j = kf S j) ∧ (∀ j, j < 5 → V.1 (D + 1) j = ks S j) ∧ V.1 D 11 = nI (kn S) ∧ kn S ≤ 6 ∧ DKr V D π ∧ ∀ i, i < m → DV V (D + 3 + 4 * π i) (kdr S i) ∧ dW (kdr S i)
theorem DKp.all {V : gV} {D : Nat} {S : Dk} {π : Nat → Nat} (h : DKp V D S π (kn S)) : DK V D S π := ⟨h.1, h.2.1, h.2.2.1, h.2.2.2.1, h.2.2.2.2.1.1, h.2.2.2.2.1.2, h.2.2.2.2.2⟩
def TF (V1 : gV) (D : Nat) (S : Dk) (π : Nat → Nat) (i : Nat) : Prop := V1.1 D 0 = kf S 0 ∧ V1.1 D 1 = kf S 1 ∧ V1.1 D 2 = kf S 2 ∧ V1.1 D 3 = kf S 3 ∧ (∀ j, j < i → V1.1 (D + 1) j = ks S j) ∧ DKr V1 D π
theorem TF.step {V1 : gV} {D : Nat} {S : Dk} {π : Nat → Nat} {i : Nat} (h : TF V1 D S π i) : TF (wI V1 (D + 1) i (ks S i)) D S π (i + 1) := by
  obtain ⟨h0, h1, h2, h3, h4, h5⟩ := h
  have ho : ∀ b, b ≠ D + 1 → (wI V1 (D + 1) i (ks S i)).1 b = V1.1 b := fun b hb => (wI_off b hb).1
  refine ⟨by rw [ho D (by omega)]; exact h0, by rw [ho D (by omega)]; exact h1, by rw [ho D (by omega)]; exact h2, by rw [ho D (by omega)]; exact h3, fun j hj => ?_, h5⟩
  by_cases e : j = i
  · subst e; simp [wI, upd]
  · simp only [wI, upd, if_true, e, if_false]; exact h4 j (by omega)
theorem TF.fin {V1 : gV} {D : Nat} {S : Dk} {π : Nat → Nat} (h : TF V1 D S π 5) (hn : kn S ≤ 6) : DKp (wI (wI (wI (wI (wI (wI V1 D 5 (kf S 5)) D 6 (kf S 6)) D 7 (kf S 7)) D 8 (kf S 8)) D 9 (kf S 9)) D 11 (nI (kn S))) D S π 0 := by
  obtain ⟨h0, h1, h2, h3, h4, h5⟩ := h
  refine ⟨fun j a b => ?_, fun j hj => ?_, by simp [wI, upd], hn, h5, fun i hi => absurd hi (Nat.not_lt_zero i)⟩
  · rcases (show j = 0 ∨ j = 1 ∨ j = 2 ∨ j = 3 ∨ j = 5 ∨ j = 6 ∨ j = 7 ∨ j = 8 ∨ j = 9 by omega) with rfl | rfl | rfl | rfl | rfl | rfl | rfl | rfl | rfl <;> simp [wI, upd] <;> assumption
  · have := h4 j hj
    simp only [wI, show ¬ D + 1 = D by omega, if_false]; exact this
theorem DKp.step {V1 V2 : gV} {D : Nat} {S : Dk} {π : Nat → Nat} {i : Nat} (h : DKp V1 D S π i) (hi : i < 6) (ho : Off V1 V2 (D + 3 + 4 * π i) (D + 3 + 4 * π i + 4)) (hd : DV V2 (D + 3 + 4 * π i) (kdr S i)) (hw : dW (kdr S i)) : DKp V2 D S π (i + 1) := by
  obtain ⟨h1, h2, h3, h4, h5, h7⟩ := h
  by_cases h6 : i < 6
  · have e0 := ho D (by omega)
    have e1 := ho (D + 1) (by omega)
    have e2 := ho (D + 2) (by omega)
    refine ⟨fun j a b => by rw [e0.1]; exact h1 j a b, fun j a => by rw [e1.1]; exact h2 j a, by rw [e0.1]; exact h3, h4, ⟨fun j a => by rw [e2.2.2]; exact h5.1 j a, h5.2⟩, fun k a => ?_⟩
    by_cases ek : k = i
    · subst ek; exact ⟨hd, hw⟩
    · have hp : π k ≠ π i := fun z => ek (h5.2 k i (by omega) h6 z)
      exact ⟨(h7 k (by omega)).1.off ho (by omega), (h7 k (by omega)).2⟩
  · exact absurd hi h6
set_option maxHeartbeats 4000000 in
set_option maxRecDepth 100000 in
theorem ct_X0_takeFrom {E : gE} {T : gT} {l : Launch} {V : gV} {D D2 : Nat} {S : Dk} {π π2 : Nat → Nat} (hD : IsDsk T D) (h2 : IsDsk T D2) (hr : DKr V D π) (hk : DK V D2 S π2) (hap : D + 27 ≤ D2 ∨ D2 + 27 ≤ D) : CtV E T l yX0_takeFrom (gw yX0_takeFrom cX0_takeFrom 5 none) { frames := 3, cells := 0, slots := 0, locals := 64 } [.ref D, .ref D2] V (fun (V' : gV) => DK V' D S π ∧ Off V V' D (D + 27)) := by
  refine ctV_of (L := [(0, .ref D), (1, .ref D2)]) (by decide) rfl (Nat.le_of_ble_eq_true rfl) rfl (fun p e s m args below meth c C => ?_)
  have loop110 : ∀ (f : Nat) (V1 : gV) (i : Nat), kn S - i = f → (i ≤ kn S) → (DKp V1 D S π i) → (Off V V1 D (D + 27)) → KW E T V1 p l e { frames := 3, cells := 0, slots := 0, locals := 64 } s m args below meth c 5 0 0 (MQ below (va_Qv (fun (V' : gV) => DK V' D S π ∧ Off V V' D (D + 27)) (RepS E T) (gA E)) args s 0 0 (gA E)) 110 [(2, .int (nI i)), (0, .ref D), (1, .ref D2)] [] := by
    intro f
    induction f using Nat.strongRecOn with
    | _ f ih =>
    intro V1 i hf hi g3 g4
    have kr := hk.off g4 (by omega)
    refine k_iload_n 110 111 C dX0_takeFrom_110 rfl 0 rfl ?_
    refine k_aload_n 111 112 C dX0_takeFrom_111 rfl 1 rfl ?_
    refine k_get 112 115 C dX0_takeFrom_112 rfl ci_X0 11 fl_X0_52 (IsDsk.o hD) (by decide) rfl ?_
    refine k_rwI (g3.2.2.1) ?_
    refine k_icmp_ge 115 152 118 C dX0_takeFrom_115 (by decide) rfl (fun h115 => ?_) (fun h115 => ?_)
    · rw [n6 (by have := hk.le; omega) (by have := hk.le; omega)] at h115
      obtain rfl : i = kn S := by omega
      refine k_vret 152 C dX0_takeFrom_152 rfl ?_
      exact ⟨(show DKp V1 D S π (kn S) from g3).all, g4⟩
    · rw [n6 (by have := hk.le; omega) (by have := hk.le; omega)] at h115
      have zl : i < kn S := by omega
      have z6 := hk.le
      refine k_aload_n 118 119 C dX0_takeFrom_118 rfl 1 rfl ?_
      refine k_iload_n 119 120 C dX0_takeFrom_119 rfl 0 rfl ?_
      refine k_callVQ 120 123 C [_] [] dX0_takeFrom_120 rfl (ct_X0_findb hD g3.2.2.2.2.1 g3.2.2.1 hk.le) mi_X0_find ml_X0_60 im_X0_find se_X0_find ci_X0 (IsDsk.o hD) rfl rfl ⟨Nat.le_of_ble_eq_true rfl, Nat.le_of_ble_eq_true rfl⟩ (Nat.le_of_ble_eq_true rfl) (Nat.zero_le _) (Nat.zero_le _) (fun r120 V120 p120 => ?_)
      obtain ⟨rfl, rfl⟩ := And.intro p120.1.symm p120.2
      refine k_rwQ (sFn_at hk.le zl) ?_
      refine k_astore_n 123 124 C [(3, _), (2, _), (0, _), (1, _)] dX0_takeFrom_123 rfl (by decide) rfl ?_
      refine k_aload_n 124 125 C dX0_takeFrom_124 rfl 3 rfl ?_
      refine k_iload_n 125 126 C dX0_takeFrom_125 rfl 1 rfl ?_
      refine k_callVQ 126 129 C [_] [] dX0_takeFrom_126 rfl (ct_X0_find h2 kr) mi_X0_find ml_X0_60 im_X0_find se_X0_find ci_X0 (IsDsk.o h2) rfl rfl ⟨Nat.le_of_ble_eq_true rfl, Nat.le_of_ble_eq_true rfl⟩ (Nat.le_of_ble_eq_true rfl) (Nat.zero_le _) (Nat.zero_le _) (fun r126 V126 p126 => ?_)
      obtain ⟨rfl, rfl⟩ := And.intro p126.1.symm p126.2
      refine k_rwQ (sFind_at hk.le zl) ?_
      refine k_astore 129 131 C [(4, _), (3, _), (2, _), (0, _), (1, _)] dX0_takeFrom_129 rfl (by decide) rfl ?_
      refine k_aload_n 131 132 C dX0_takeFrom_131 rfl 1 rfl ?_
      refine k_ifnullO 132 135 C dX0_takeFrom_132 rfl ?_
      refine k_aload 135 137 C dX0_takeFrom_135 rfl 0 rfl ?_
      refine k_ifnullO 137 140 C dX0_takeFrom_137 rfl ?_
      refine k_aload_n 140 141 C dX0_takeFrom_140 rfl 1 rfl ?_
      refine k_aload 141 143 C dX0_takeFrom_141 rfl 0 rfl ?_
      refine k_callVV 143 146 C [_] [] dX0_takeFrom_143 rfl (ct_X1_takeFrom (hD.d _ (hr.1 i (by omega)).1) (h2.d _ (hk.p i (by omega))) (kr.d i zl) (kr.w i zl) (by have := (hr.1 i (by omega)).1; have := hk.p i (by omega); omega)) mi_X1_takeFrom ml_X0_64 im_X1_takeFrom se_X1_takeFrom ci_X1 (IsDrw.o (hD.d _ (hr.1 i (by omega)).1)) rfl rfl ⟨Nat.le_of_ble_eq_true rfl, Nat.le_of_ble_eq_true rfl⟩ (Nat.le_of_ble_eq_true rfl) (Nat.zero_le _) (Nat.zero_le _) (fun V143 p143 => ?_)
      refine k_iinc 146 149 C [(2, _), (4, _), (3, _), (0, _), (1, _)] (nI (i + 1)) dX0_takeFrom_146 rfl 2 rfl (nI_1 i) (by decide) rfl ?_
      refine k_goto 149 110 C dX0_takeFrom_149 (by decide) ?_
      refine k_perm [0, 3, 4] (L' := [(2, _), (0, _), (1, _)]) rfl ?_
      exact ih (kn S - (i + 1)) (by omega) V143 (i + 1) rfl (by omega) (g3.step (by omega) p143.2 p143.1 (kr.w i zl)) (g4.trans (p143.2.wide (by omega) (by have := (hr.1 i (by omega)).1; omega)))
  have loop34 : ∀ (f : Nat) (V1 : gV) (i : Nat), 5 - i = f → (i ≤ 5) → (TF V1 D S π i) → (Off V V1 D (D + 27)) → KW E T V1 p l e { frames := 3, cells := 0, slots := 0, locals := 64 } s m args below meth c 5 0 0 (MQ below (va_Qv (fun (V' : gV) => DK V' D S π ∧ Off V V' D (D + 27)) (RepS E T) (gA E)) args s 0 0 (gA E)) 34 [(2, .int (nI i)), (0, .ref D), (1, .ref D2)] [] := by
    intro f
    induction f using Nat.strongRecOn with
    | _ f ih =>
    intro V1 i hf hi g1 g2
    have kq := hk.off g2 (by omega)
    refine k_iload_n 34 35 C dX0_takeFrom_34 rfl 0 rfl ?_
    refine k_aload_n 35 36 C dX0_takeFrom_35 rfl 1 rfl ?_
    refine k_getF 36 39 C dX0_takeFrom_36 rfl ci_X0 4 fl_X0_28 (IsDsk.o hD) (by decide) (IsDsk.f4 hD) rfl ?_
    refine k_alen 39 40 C dX0_takeFrom_39 rfl (IsDsk.a4 ‹_›) (by decide) (v := 5) rfl ?_
    refine k_icmp_ge 40 60 43 C dX0_takeFrom_40 (by decide) rfl (fun h40 => ?_) (fun h40 => ?_)
    · have z40 : nI 5 ≤ nI i := h40
      rw [n6 (by omega) (by omega)] at z40
      obtain rfl : i = 5 := by omega
      refine k_aload_n 60 61 C dX0_takeFrom_60 rfl 1 rfl ?_
      refine k_aload_n 61 62 C dX0_takeFrom_61 rfl 2 rfl ?_
      refine k_get 62 65 C dX0_takeFrom_62 rfl ci_X0 5 fl_X0_31 (IsDsk.o h2) (by decide) rfl ?_
      refine k_rwI (kq.f 5 (by decide) (by decide)) ?_
      refine k_put 65 68 C dX0_takeFrom_65 rfl ci_X0 5 fl_X0_31 (IsDsk.o hD) (by decide) rfl rfl rfl wI_off (ps_0_5 _ _ _ _) ?_
      have o5_ := g2.wI (a := D) (k := 5) (x := kf S 5) (Nat.le_refl D) (by omega)
      have k5_ := hk.off o5_ (by omega)
      refine k_aload_n 68 69 C dX0_takeFrom_68 rfl 1 rfl ?_
      refine k_aload_n 69 70 C dX0_takeFrom_69 rfl 2 rfl ?_
      refine k_get 70 73 C dX0_takeFrom_70 rfl ci_X0 6 fl_X0_34 (IsDsk.o h2) (by decide) rfl ?_
      refine k_rwI (k5_.f 6 (by decide) (by decide)) ?_
      refine k_put 73 76 C dX0_takeFrom_73 rfl ci_X0 6 fl_X0_34 (IsDsk.o hD) (by decide) rfl rfl rfl wI_off (ps_0_6 _ _ _ _) ?_
      have o6_ := o5_.wI (a := D) (k := 6) (x := kf S 6) (Nat.le_refl D) (by omega)
      have k6_ := hk.off o6_ (by omega)
      refine k_aload_n 76 77 C dX0_takeFrom_76 rfl 1 rfl ?_
      refine k_aload_n 77 78 C dX0_takeFrom_77 rfl 2 rfl ?_
      refine k_get 78 81 C dX0_takeFrom_78 rfl ci_X0 7 fl_X0_37 (IsDsk.o h2) (by decide) rfl ?_
      refine k_rwI (k6_.f 7 (by decide) (by decide)) ?_
      refine k_put 81 84 C dX0_takeFrom_81 rfl ci_X0 7 fl_X0_37 (IsDsk.o hD) (by decide) rfl rfl rfl wI_off (ps_0_7 _ _ _ _) ?_
      have o7_ := o6_.wI (a := D) (k := 7) (x := kf S 7) (Nat.le_refl D) (by omega)
      have k7_ := hk.off o7_ (by omega)
      refine k_aload_n 84 85 C dX0_takeFrom_84 rfl 1 rfl ?_
      refine k_aload_n 85 86 C dX0_takeFrom_85 rfl 2 rfl ?_
      refine k_get 86 89 C dX0_takeFrom_86 rfl ci_X0 8 fl_X0_40 (IsDsk.o h2) (by decide) rfl ?_
      refine k_rwI (k7_.f 8 (by decide) (by decide)) ?_
      refine k_put 89 92 C dX0_takeFrom_89 rfl ci_X0 8 fl_X0_40 (IsDsk.o hD) (by decide) rfl rfl rfl wI_off (ps_0_8 _ _ _ _) ?_
      have o8_ := o7_.wI (a := D) (k := 8) (x := kf S 8) (Nat.le_refl D) (by omega)
      have k8_ := hk.off o8_ (by omega)
      refine k_aload_n 92 93 C dX0_takeFrom_92 rfl 1 rfl ?_
      refine k_aload_n 93 94 C dX0_takeFrom_93 rfl 2 rfl ?_
      refine k_get 94 97 C dX0_takeFrom_94 rfl ci_X0 9 fl_X0_43 (IsDsk.o h2) (by decide) rfl ?_
      refine k_rwI (k8_.f 9 (by decide) (by decide)) ?_
      refine k_put 97 100 C dX0_takeFrom_97 rfl ci_X0 9 fl_X0_43 (IsDsk.o hD) (by decide) rfl rfl rfl wI_off (ps_0_9 _ _ _ _) ?_
      have o9_ := o8_.wI (a := D) (k := 9) (x := kf S 9) (Nat.le_refl D) (by omega)
      have k9_ := hk.off o9_ (by omega)
      refine k_aload_n 100 101 C dX0_takeFrom_100 rfl 1 rfl ?_
      refine k_aload_n 101 102 C dX0_takeFrom_101 rfl 2 rfl ?_
      refine k_get 102 105 C dX0_takeFrom_102 rfl ci_X0 11 fl_X0_52 (IsDsk.o h2) (by decide) rfl ?_
      refine k_rwI (k9_.n) ?_
      refine k_put 105 108 C dX0_takeFrom_105 rfl ci_X0 11 fl_X0_52 (IsDsk.o hD) (by decide) rfl rfl rfl wI_off (ps_0_11 _ _ _ _) ?_
      have zo := o9_.wI (a := D) (k := 11) (x := nI (kn S)) (Nat.le_refl D) (by omega)
      have zf := g1.fin hk.le
      refine k_iconst 108 109 C dX0_takeFrom_108 rfl (v := 0) rfl ?_
      refine k_istore_n 109 110 C [(2, _), (0, _), (1, _)] dX0_takeFrom_109 rfl (by decide) rfl ?_
      exact loop110 _ _ 0 rfl (Nat.zero_le _) zf zo
    · have z40 : ¬ nI 5 ≤ nI i := h40
      rw [n6 (by omega) (by omega)] at z40
      refine k_aload_n 43 44 C dX0_takeFrom_43 rfl 1 rfl ?_
      refine k_getF 44 47 C dX0_takeFrom_44 rfl ci_X0 4 fl_X0_28 (IsDsk.o hD) (by decide) (IsDsk.f4 hD) rfl ?_
      refine k_iload_n 47 48 C dX0_takeFrom_47 rfl 0 rfl ?_
      refine k_aload_n 48 49 C dX0_takeFrom_48 rfl 2 rfl ?_
      refine k_iload_n 49 50 C dX0_takeFrom_49 rfl 0 rfl ?_
      refine k_callVI 50 53 C [_] [_, _] dX0_takeFrom_50 rfl (ct_X0_setting h2 kq) mi_X0_setting ml_X0_56 im_X0_setting se_X0_setting ci_X0 (IsDsk.o h2) rfl rfl ⟨Nat.le_of_ble_eq_true rfl, Nat.le_of_ble_eq_true rfl⟩ (Nat.le_of_ble_eq_true rfl) (Nat.zero_le _) (Nat.zero_le _) (fun r50 V50 p50 => ?_)
      obtain ⟨rfl, rfl⟩ := And.intro p50.1.symm p50.2
      refine k_rwI (y := ks S i) (by unfold sSet; rw [if_pos ⟨nI_pos (by omega), h40⟩, nI_clamp (by omega)]) ?_
      refine k_iast 53 54 C dX0_takeFrom_53 rfl (IsDsk.a4 hD) (vp_in_nI (show i < 5 by omega) (by decide)) ?_
      rw [nI_clamp (show i < 2 ^ 31 by omega)]
      refine k_iinc 54 57 C [(2, _), (0, _), (1, _)] (nI (i + 1)) dX0_takeFrom_54 rfl 0 rfl (nI_1 i) (by decide) rfl ?_
      refine k_goto 57 34 C dX0_takeFrom_57 (by decide) ?_
      exact ih (5 - (i + 1)) (by omega) _ (i + 1) rfl (by omega) g1.step (g2.wI (by omega) (by omega))
  refine k_aload_n 0 1 C dX0_takeFrom_0 rfl 0 rfl ?_
  refine k_aload_n 1 2 C dX0_takeFrom_1 rfl 1 rfl ?_
  refine k_get 2 5 C dX0_takeFrom_2 rfl ci_X0 0 fl_X0_9 (IsDsk.o h2) (by decide) rfl ?_
  refine k_rwI (hk.f 0 (by decide) (by decide)) ?_
  refine k_put 5 8 C dX0_takeFrom_5 rfl ci_X0 0 fl_X0_9 (IsDsk.o hD) (by decide) rfl rfl rfl wI_off (ps_0_0 _ _ _ _) ?_
  have o1_ := (Off.rf (V := V) (lo := D) (hi := D + 27)).wI (a := D) (k := 0) (x := kf S 0) (Nat.le_refl D) (by omega)
  have k1_ := hk.off o1_ (by omega)
  refine k_aload_n 8 9 C dX0_takeFrom_8 rfl 0 rfl ?_
  refine k_aload_n 9 10 C dX0_takeFrom_9 rfl 1 rfl ?_
  refine k_get 10 13 C dX0_takeFrom_10 rfl ci_X0 1 fl_X0_15 (IsDsk.o h2) (by decide) rfl ?_
  refine k_rwI (k1_.f 1 (by decide) (by decide)) ?_
  refine k_put 13 16 C dX0_takeFrom_13 rfl ci_X0 1 fl_X0_15 (IsDsk.o hD) (by decide) rfl rfl rfl wI_off (ps_0_1 _ _ _ _) ?_
  have o2_ := o1_.wI (a := D) (k := 1) (x := kf S 1) (Nat.le_refl D) (by omega)
  have k2_ := hk.off o2_ (by omega)
  refine k_aload_n 16 17 C dX0_takeFrom_16 rfl 0 rfl ?_
  refine k_aload_n 17 18 C dX0_takeFrom_17 rfl 1 rfl ?_
  refine k_get 18 21 C dX0_takeFrom_18 rfl ci_X0 2 fl_X0_18 (IsDsk.o h2) (by decide) rfl ?_
  refine k_rwI (k2_.f 2 (by decide) (by decide)) ?_
  refine k_put 21 24 C dX0_takeFrom_21 rfl ci_X0 2 fl_X0_18 (IsDsk.o hD) (by decide) rfl rfl rfl wI_off (ps_0_2 _ _ _ _) ?_
  have o3_ := o2_.wI (a := D) (k := 2) (x := kf S 2) (Nat.le_refl D) (by omega)
  have k3_ := hk.off o3_ (by omega)
  refine k_aload_n 24 25 C dX0_takeFrom_24 rfl 0 rfl ?_
  refine k_aload_n 25 26 C dX0_takeFrom_25 rfl 1 rfl ?_
  refine k_get 26 29 C dX0_takeFrom_26 rfl ci_X0 3 fl_X0_21 (IsDsk.o h2) (by decide) rfl ?_
  refine k_rwI (k3_.f 3 (by decide) (by decide)) ?_
  refine k_put 29 32 C dX0_takeFrom_29 rfl ci_X0 3 fl_X0_21 (IsDsk.o hD) (by decide) rfl rfl rfl wI_off (ps_0_3 _ _ _ _) ?_
  have o4_ := o3_.wI (a := D) (k := 3) (x := kf S 3) (Nat.le_refl D) (by omega)
  have k4_ := hk.off o4_ (by omega)
  refine k_iconst 32 33 C dX0_takeFrom_32 rfl (v := 0) rfl ?_
  refine k_istore_n 33 34 C [(2, _), (0, _), (1, _)] dX0_takeFrom_33 rfl (by decide) rfl ?_
  refine loop34 _ _ 0 rfl (Nat.zero_le _) ?_ o4_
  exact ⟨by simp [wI, upd], by simp [wI, upd], by simp [wI, upd], by simp [wI, upd], fun j hj => absurd hj (Nat.not_lt_zero j), hr⟩

