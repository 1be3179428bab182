/-- the text of the reference: its length and its signs -/
def TQ (V : gV) (M zn : Nat) (cs : Nat → Int32) : Prop := V.1 M 5 = nI zn ∧ zn ≤ 100 ∧ ∀ j, j < zn → V.1 (M + 4) j = cs j
/-- only the text changed -/
def KtM (V V1 : gV) (M : Nat) : Prop := (∀ b, b ≠ M → b ≠ M + 4 → V1.1 b = V.1 b) ∧ (∀ j, j ≠ 5 → V1.1 M j = V.1 M j) ∧ V1.2 = V.2
theorem TQ.add {V : gV} {M zn : Nat} {cs : Nat → Int32} {x : Int32} (g : TQ V M zn cs) (hz : zn < 100) : TQ (wI (wI V (M + 4) zn x) M 5 (nI (zn + 1))) M (zn + 1) (va_up cs zn x) ∧ KtM V (wI (wI V (M + 4) zn x) M 5 (nI (zn + 1))) M := by
  refine ⟨⟨?_, by omega, fun j hj => ?_⟩, fun b hb hb2 => ?_, fun j hj => ?_, rfl⟩
  · show (if M = M then upd _ 5 _ else _) 5 = _; rw [if_pos rfl, pk_us]
  · rw [(wI_off (M + 4) (by omega)).1]
    show (if M + 4 = M + 4 then upd (V.1 (M + 4)) zn x else _) j = _
    rw [if_pos rfl]
    by_cases e : j = zn
    · subst e; rw [pk_us, va_up_self]
    · rw [pk_un e, va_up_ne _ _ e]; exact g.2.2 j (by omega)
  · rw [(wI_off b hb).1, (wI_off b hb2).1]
  · show (if M = M then upd ((wI V (M + 4) zn x).1 M) 5 _ else _) j = _
    rw [if_pos rfl, pk_un hj, (wI_off M (by omega)).1]
def mTyp (zn : Nat) (cs : Nat → Int32) (x : Int32) : Int32 × Option (Nat × (Nat → Int32)) := if ¬ okR x 32 126 then (-2000000001, none) else if zn = 100 then (-2000000003, none) else (nI (zn + 1), some (zn + 1, va_up cs zn x))
set_option maxHeartbeats 4000000 in
set_option maxRecDepth 100000 in
theorem ct_X4_clearText {E : gE} {T : gT} {l : Launch} {V : gV} {M zn : Nat} {cs : Nat → Int32} (hM : IsMdl T M) (ht : TQ V M zn cs) : CtI E T l yX4_clearText (gw yX4_clearText cX4_clearText 2 (some .int)) { frames := 0, cells := 0, slots := 0, locals := 0 } [.ref M] V (fun (r : Int32) (V' : gV) => r = nI zn ∧ TQ V' M 0 cs ∧ KtM V V' M) := by
  refine ctI_of (L := [(0, .ref M)]) (by decide) rfl (Nat.le_of_ble_eq_true rfl) rfl (fun p e s m args below meth c C => ?_)
  refine k_aload_n 0 1 C dX4_clearText_0 rfl 0 rfl ?_
  refine k_get 1 4 C dX4_clearText_1 rfl ci_X4 5 fl_X4_79 (IsMdl.o ‹_›) (by decide) rfl ?_
  refine k_rwI (ht.1) ?_
  refine k_istore_n 4 5 C [(1, _), (0, _)] dX4_clearText_4 rfl (by decide) rfl ?_
  refine k_aload_n 5 6 C dX4_clearText_5 rfl 1 rfl ?_
  refine k_iconst 6 7 C dX4_clearText_6 rfl (v := 0) rfl ?_
  refine k_put 7 10 C dX4_clearText_7 rfl ci_X4 5 fl_X4_79 (IsMdl.o ‹_›) (by decide) rfl rfl rfl wI_off (ps_4_5 _ _ _ _) ?_
  refine k_iload_n 10 11 C dX4_clearText_10 rfl 0 rfl ?_
  refine k_iret 11 C dX4_clearText_11 rfl ?_
  refine ⟨rfl, ⟨?_, Nat.zero_le _, fun j hj => absurd hj (Nat.not_lt_zero j)⟩, fun b hb _ => (wI_off b hb).1, fun j hj => ?_, rfl⟩
  · show (if M = M then upd (V.1 M) 5 _ else _) 5 = _; rw [if_pos rfl, pk_us]; rfl
  · show (if M = M then upd (V.1 M) 5 _ else _) j = _; rw [if_pos rfl, pk_un hj]
set_option maxHeartbeats 4000000 in
set_option maxRecDepth 100000 in
theorem ct_X4_type {E : gE} {T : gT} {l : Launch} {V : gV} {M zn : Nat} {x : Int32} {cs : Nat → Int32} (hM : IsMdl T M) (ht : TQ V M zn cs) : CtI E T l yX4_type (gw yX4_type cX4_type 2 (some .int)) { frames := 1, cells := 0, slots := 0, locals := 22 } [.ref M, .int x] V (fun (r : Int32) (V' : gV) => r = (mTyp zn cs x).1 ∧ (match (mTyp zn cs x).2 with | none => TQ V' M zn cs | some z => TQ V' M z.1 z.2) ∧ KtM V V' M) := by
  refine ctI_of (L := [(0, .ref M), (1, .int x)]) (by decide) rfl (Nat.le_of_ble_eq_true rfl) rfl (fun p e s m args below meth c C => ?_)
  have z4 := ht.2.1
  refine k_iload_n 0 1 C dX4_type_0 rfl 1 rfl ?_
  refine k_bipush 1 3 C dX4_type_1 rfl (v := 32) rfl ?_
  refine k_bipush 3 5 C dX4_type_3 rfl (v := 126) rfl ?_
  refine k_callSI 5 8 C [_, _, _] [] dX4_type_5 rfl ct_X4_in mi_X4_in ml_X4_57 st_X4_in rfl rfl ⟨Nat.le_of_ble_eq_true rfl, Nat.le_of_ble_eq_true rfl⟩ (Nat.le_of_ble_eq_true rfl) (Nat.zero_le _) (Nat.zero_le _) (fun r5 V5 p5 => ?_)
  obtain ⟨rfl, rfl⟩ := And.intro p5.1.symm p5.2
  refine k_ifb_ne 8 14 11 C dX4_type_8 (by decide) rfl (fun h8 => ?_) (fun h8 => ?_)
  · refine k_aload_n 14 15 C dX4_type_14 rfl 0 rfl ?_
    refine k_get 15 18 C dX4_type_15 rfl ci_X4 5 fl_X4_79 (IsMdl.o ‹_›) (by decide) rfl ?_
    refine k_rwI (y := nI zn) ht.1 ?_
    refine k_bipush 18 20 C dX4_type_18 rfl (v := 100) rfl ?_
    refine k_icmp_ne 20 26 23 C dX4_type_20 (by decide) rfl (fun h20 => ?_) (fun h20 => ?_)
    · have z20 : ¬ zn = 100 := fun zz => h20 (by rw [zz]; rfl)
      refine k_aload_n 26 27 C dX4_type_26 rfl 0 rfl ?_
      refine k_getF 27 30 C dX4_type_27 rfl ci_X4 4 fl_X4_19 (IsMdl.o ‹_›) (by decide) (IsMdl.f4 ‹_›) rfl ?_
      refine k_aload_n 30 31 C dX4_type_30 rfl 0 rfl ?_
      refine k_get 31 34 C dX4_type_31 rfl ci_X4 5 fl_X4_79 (IsMdl.o ‹_›) (by decide) rfl ?_
      refine k_rwI (y := nI zn) ht.1 ?_
      refine k_iload_n 34 35 C dX4_type_34 rfl 1 rfl ?_
      refine k_iast 35 36 C dX4_type_35 rfl (IsMdl.a4 ‹_›) (vp_in_nI (show zn < 100 by omega) (by decide)) ?_
      rw [nI_clamp (show zn < 2 ^ 31 by omega)]
      refine k_aload_n 36 37 C dX4_type_36 rfl 0 rfl ?_
      refine k_dup 37 38 C dX4_type_37 rfl rfl ?_
      refine k_get 38 41 C dX4_type_38 rfl ci_X4 5 fl_X4_79 (IsMdl.o ‹_›) (by decide) rfl ?_
      refine k_rwI (y := nI zn) (by rw [(wI_off M (by omega)).1]; exact ht.1) ?_
      refine k_iconst 41 42 C dX4_type_41 rfl (v := 1) rfl ?_
      refine k_iadd 42 43 C dX4_type_42 rfl  ?_
      refine k_rwI (y := nI (zn + 1)) (nI_add (zn) (1)) ?_
      refine k_put 43 46 C dX4_type_43 rfl ci_X4 5 fl_X4_79 (IsMdl.o ‹_›) (by decide) rfl rfl rfl wI_off (ps_4_5 _ _ _ _) ?_
      refine k_aload_n 46 47 C dX4_type_46 rfl 0 rfl ?_
      refine k_get 47 50 C dX4_type_47 rfl ci_X4 5 fl_X4_79 (IsMdl.o ‹_›) (by decide) rfl ?_
      refine k_rwI (y := nI (zn + 1)) (ht.add (by omega)).1.1 ?_
      refine k_iret 50 C dX4_type_50 rfl ?_
      have ee : mTyp zn cs x = (nI (zn + 1), some (zn + 1, va_up cs zn x)) := by
        unfold mTyp; rw [if_neg (fun zz => zz h8), if_neg z20]
      exact ⟨by rw [ee], by rw [ee]; exact (ht.add (by omega)).1, (ht.add (by omega)).2⟩
    · have z20 : zn = 100 := (nI_eq (by omega) (by decide)).mp (h20 : nI zn = nI 100)
      refine k_ldc 23 25 C dX4_type_23 rfl kc_X4_84 ?_
      refine k_iret 25 C dX4_type_25 rfl ?_
      have ee : mTyp zn cs x = (-2000000003, none) := by
        unfold mTyp; rw [if_neg (fun zz => zz h8), if_pos z20]
      exact ⟨by rw [ee], by rw [ee]; exact ht, fun _ _ _ => rfl, fun _ _ => rfl, rfl⟩
  · refine k_ldc 11 13 C dX4_type_11 rfl kc_X4_61 ?_
    refine k_iret 13 C dX4_type_13 rfl ?_
    have ee : mTyp zn cs x = (-2000000001, none) := by
      unfold mTyp; rw [if_pos h8]
    exact ⟨by rw [ee], by rw [ee]; exact ht, fun _ _ _ => rfl, fun _ _ => rfl, rfl⟩
