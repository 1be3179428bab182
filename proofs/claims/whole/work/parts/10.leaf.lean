set_option maxHeartbeats 4000000 in
set_option maxRecDepth 100000 in
theorem ct_X3_isWithin {E : gE} {T : gT} {l : Launch} {V : gV} {a b d : Int32} : CtI E T l yX3_isWithin (gw yX3_isWithin cX3_isWithin 3 (some .boolean)) { frames := 0, cells := 0, slots := 0, locals := 0 } [.int a, .int b, .int d] V (fun (r : Int32) (V' : gV) => V' = V ∧ r = bi (¬ a < b ∧ ¬ d < a)) := by
  refine ctI_of (L := [(0, .int a), (1, .int b), (2, .int d)]) (by decide) rfl (Nat.le_of_ble_eq_true rfl) rfl (fun p e s m args below meth c C => ?_)
  refine k_iload_n 0 1 C dX3_isWithin_0 rfl 0 rfl ?_
  refine k_iload_n 1 2 C dX3_isWithin_1 rfl 1 rfl ?_
  refine k_icmp_lt 2 14 5 C dX3_isWithin_2 (by decide) rfl (fun h2 => ?_) (fun h2 => ?_)
  · refine k_iconst 14 15 C dX3_isWithin_14 rfl (v := 0) rfl ?_
    refine k_zret 15 C dX3_isWithin_15 rfl (by first | exact Or.inl rfl | exact Or.inr rfl | exact bi_01) ?_
    exact ⟨rfl, by simp [bi, h2]⟩
  · refine k_iload_n 5 6 C dX3_isWithin_5 rfl 0 rfl ?_
    refine k_iload_n 6 7 C dX3_isWithin_6 rfl 2 rfl ?_
    refine k_icmp_gt 7 14 10 C dX3_isWithin_7 (by decide) rfl (fun h7 => ?_) (fun h7 => ?_)
    · refine k_iconst 14 15 C dX3_isWithin_14 rfl (v := 0) rfl ?_
      refine k_zret 15 C dX3_isWithin_15 rfl (by first | exact Or.inl rfl | exact Or.inr rfl | exact bi_01) ?_
      exact ⟨rfl, by simp [bi, h2, h7]⟩
    · refine k_iconst 10 11 C dX3_isWithin_10 rfl (v := 1) rfl ?_
      refine k_goto 11 15 C dX3_isWithin_11 (by decide) ?_
      refine k_zret 15 C dX3_isWithin_15 rfl (by first | exact Or.inl rfl | exact Or.inr rfl | exact bi_01) ?_
      exact ⟨rfl, by simp [bi, h2, h7]⟩
set_option maxHeartbeats 4000000 in
set_option maxRecDepth 100000 in
theorem ct_X4_in {E : gE} {T : gT} {l : Launch} {V : gV} {a b d : Int32} : CtI E T l yX4_in (gw yX4_in cX4_in 3 (some .boolean)) { frames := 0, cells := 0, slots := 0, locals := 0 } [.int a, .int b, .int d] V (fun (r : Int32) (V' : gV) => V' = V ∧ r = bi (¬ a < b ∧ ¬ d < a)) := by
  refine ctI_of (L := [(0, .int a), (1, .int b), (2, .int d)]) (by decide) rfl (Nat.le_of_ble_eq_true rfl) rfl (fun p e s m args below meth c C => ?_)
  refine k_iload_n 0 1 C dX4_in_0 rfl 0 rfl ?_
  refine k_iload_n 1 2 C dX4_in_1 rfl 1 rfl ?_
  refine k_icmp_lt 2 14 5 C dX4_in_2 (by decide) rfl (fun h2 => ?_) (fun h2 => ?_)
  · refine k_iconst 14 15 C dX4_in_14 rfl (v := 0) rfl ?_
    refine k_zret 15 C dX4_in_15 rfl (by first | exact Or.inl rfl | exact Or.inr rfl | exact bi_01) ?_
    exact ⟨rfl, by simp [bi, h2]⟩
  · refine k_iload_n 5 6 C dX4_in_5 rfl 0 rfl ?_
    refine k_iload_n 6 7 C dX4_in_6 rfl 2 rfl ?_
    refine k_icmp_gt 7 14 10 C dX4_in_7 (by decide) rfl (fun h7 => ?_) (fun h7 => ?_)
    · refine k_iconst 14 15 C dX4_in_14 rfl (v := 0) rfl ?_
      refine k_zret 15 C dX4_in_15 rfl (by first | exact Or.inl rfl | exact Or.inr rfl | exact bi_01) ?_
      exact ⟨rfl, by simp [bi, h2, h7]⟩
    · refine k_iconst 10 11 C dX4_in_10 rfl (v := 1) rfl ?_
      refine k_goto 11 15 C dX4_in_11 (by decide) ?_
      refine k_zret 15 C dX4_in_15 rfl (by first | exact Or.inl rfl | exact Or.inr rfl | exact bi_01) ?_
      exact ⟨rfl, by simp [bi, h2, h7]⟩
set_option maxHeartbeats 4000000 in
set_option maxRecDepth 100000 in
theorem ct_X3_quotient {E : gE} {T : gT} {l : Launch} {V : gV} {a b : Int64} : CtL E T l yX3_quotient (gw yX3_quotient cX3_quotient 4 (some .long)) { frames := 0, cells := 0, slots := 0, locals := 0 } [.long a, .long b] V (fun (r : Int64) (V' : gV) => V' = V ∧ r = if b ≤ 0 then 0 else a / b) := by
  refine ctL_of (L := [(0, .long a), (2, .long b)]) (by decide) rfl (Nat.le_of_ble_eq_true rfl) rfl (fun p e s m args below meth c C => ?_)
  refine k_lload_n 0 1 C dX3_quotient_0 rfl 1 rfl ?_
  refine k_lconst 1 2 C dX3_quotient_1 rfl (v := 0) rfl ?_
  refine k_lcmp_le 2 3 12 6 C dX3_quotient_2 rfl dX3_quotient_3 (by decide) rfl (fun h3 => ?_) (fun h3 => ?_)
  · refine k_lconst 12 13 C dX3_quotient_12 rfl (v := 0) rfl ?_
    refine k_lret 13 C dX3_quotient_13 rfl ?_
    exact ⟨rfl, by simp [h3]⟩
  · refine k_lload_n 6 7 C dX3_quotient_6 rfl 0 rfl ?_
    refine k_lload_n 7 8 C dX3_quotient_7 rfl 1 rfl ?_
    refine k_ldiv 8 9 C dX3_quotient_8 rfl ‹_› ?_
    refine k_goto 9 13 C dX3_quotient_9 (by decide) ?_
    refine k_lret 13 C dX3_quotient_13 rfl ?_
    exact ⟨rfl, by simp [h3]⟩
set_option maxHeartbeats 4000000 in
set_option maxRecDepth 100000 in
theorem ct_X2_isDigit {E : gE} {T : gT} {l : Launch} {V : gV} {a : Int32} : CtI E T l yX2_isDigit (gw yX2_isDigit cX2_isDigit 1 (some .boolean)) { frames := 0, cells := 0, slots := 0, locals := 0 } [.int a] V (fun (r : Int32) (V' : gV) => V' = V ∧ r = bi (¬ a < 48 ∧ ¬ 57 < a)) := by
  refine ctI_of (L := [(0, .int a)]) (by decide) rfl (Nat.le_of_ble_eq_true rfl) rfl (fun p e s m args below meth c C => ?_)
  refine k_iload_n 0 1 C dX2_isDigit_0 rfl 0 rfl ?_
  refine k_bipush 1 3 C dX2_isDigit_1 rfl (v := 48) rfl ?_
  refine k_icmp_lt 3 16 6 C dX2_isDigit_3 (by decide) rfl (fun h3 => ?_) (fun h3 => ?_)
  · refine k_iconst 16 17 C dX2_isDigit_16 rfl (v := 0) rfl ?_
    refine k_zret 17 C dX2_isDigit_17 rfl (by first | exact Or.inl rfl | exact Or.inr rfl | exact bi_01) ?_
    exact ⟨rfl, by simp [bi, h3]⟩
  · refine k_iload_n 6 7 C dX2_isDigit_6 rfl 0 rfl ?_
    refine k_bipush 7 9 C dX2_isDigit_7 rfl (v := 57) rfl ?_
    refine k_icmp_gt 9 16 12 C dX2_isDigit_9 (by decide) rfl (fun h9 => ?_) (fun h9 => ?_)
    · refine k_iconst 16 17 C dX2_isDigit_16 rfl (v := 0) rfl ?_
      refine k_zret 17 C dX2_isDigit_17 rfl (by first | exact Or.inl rfl | exact Or.inr rfl | exact bi_01) ?_
      exact ⟨rfl, by simp [bi, h3, h9]⟩
    · refine k_iconst 12 13 C dX2_isDigit_12 rfl (v := 1) rfl ?_
      refine k_goto 13 17 C dX2_isDigit_13 (by decide) ?_
      refine k_zret 17 C dX2_isDigit_17 rfl (by first | exact Or.inl rfl | exact Or.inr rfl | exact bi_01) ?_
      exact ⟨rfl, by simp [bi, h3, h9]⟩
set_option maxHeartbeats 4000000 in
set_option maxRecDepth 100000 in
theorem ct_X0_setting {E : gE} {T : gT} {l : Launch} {V : gV} {D : Nat} {i : Int32} (hD : IsDsk T D) : CtI E T l yX0_setting (gw yX0_setting cX0_setting 2 (some .int)) { frames := 0, cells := 0, slots := 0, locals := 0 } [.ref D, .int i] V (fun (r : Int32) (V' : gV) => V' = V ∧ r = if ¬ i < 0 ∧ ¬ 5 ≤ i then V.1 (D + 1) i.toNatClampNeg else 0) := by
  refine ctI_of (L := [(0, .ref D), (1, .int i)]) (by decide) rfl (Nat.le_of_ble_eq_true rfl) rfl (fun p e s m args below meth c C => ?_)
  refine k_iload_n 0 1 C dX0_setting_0 rfl 1 rfl ?_
  refine k_if_lt 1 22 4 C dX0_setting_1 (by decide) rfl (fun h1 => ?_) (fun h1 => ?_)
  · refine k_iconst 22 23 C dX0_setting_22 rfl (v := 0) rfl ?_
    refine k_iret 23 C dX0_setting_23 rfl ?_
    exact ⟨rfl, by simp [h1]⟩
  · refine k_iload_n 4 5 C dX0_setting_4 rfl 1 rfl ?_
    refine k_aload_n 5 6 C dX0_setting_5 rfl 0 rfl ?_
    refine k_getF 6 9 C dX0_setting_6 rfl ci_X0 4 fl_X0_28 (IsDsk.o ‹_›) (by decide) (IsDsk.f4 ‹_›) rfl ?_
    refine k_alen 9 10 C dX0_setting_9 rfl (IsDsk.a4 ‹_›) (by decide) (v := 5) rfl ?_
    refine k_icmp_ge 10 22 13 C dX0_setting_10 (by decide) rfl (fun h10 => ?_) (fun h10 => ?_)
    · refine k_iconst 22 23 C dX0_setting_22 rfl (v := 0) rfl ?_
      refine k_iret 23 C dX0_setting_23 rfl ?_
      exact ⟨rfl, by simp [h1, h10]⟩
    · refine k_aload_n 13 14 C dX0_setting_13 rfl 0 rfl ?_
      refine k_getF 14 17 C dX0_setting_14 rfl ci_X0 4 fl_X0_28 (IsDsk.o ‹_›) (by decide) (IsDsk.f4 ‹_›) rfl ?_
      refine k_iload_n 17 18 C dX0_setting_17 rfl 1 rfl ?_
      refine k_iald 18 19 C dX0_setting_18 rfl (IsDsk.a4 ‹_›) (vi_of (by decide) h1 h10) ?_
      refine k_goto 19 23 C dX0_setting_19 (by decide) ?_
      refine k_iret 23 C dX0_setting_23 rfl ?_
      exact ⟨rfl, by simp [h1, h10]⟩
set_option maxHeartbeats 4000000 in
set_option maxRecDepth 100000 in
theorem ct_X0_find {E : gE} {T : gT} {l : Launch} {V : gV} {D : Nat} {i : Int32} (hD : IsDsk T D) : CtQ E T l yX0_find (gw yX0_find cX0_find 2 (some (.object "PantographArm$Drawing"))) { frames := 0, cells := 0, slots := 0, locals := 0 } [.ref D, .int i] V (fun (r : Option Nat) (V' : gV) => V' = V ∧ r = if ¬ i < 0 ∧ ¬ V.1 D 11 ≤ i ∧ ¬ 6 ≤ i then V.2.2 (D + 2) i.toNatClampNeg else none) := by
  refine ctQ_of (L := [(0, .ref D), (1, .int i)]) (by decide) rfl (Nat.le_of_ble_eq_true rfl) rfl (fun p e s m args below meth c C => ?_)
  refine k_iload_n 0 1 C dX0_find_0 rfl 1 rfl ?_
  refine k_if_lt 1 30 4 C dX0_find_1 (by decide) rfl (fun h1 => ?_) (fun h1 => ?_)
  · refine k_null 30 31 C dX0_find_30 rfl  ?_
    refine k_aret 31 C (x := none) dX0_find_31 rfl (Or.inl ⟨_, rfl⟩) ?_
    exact ⟨rfl, by simp [h1]⟩
  · refine k_iload_n 4 5 C dX0_find_4 rfl 1 rfl ?_
    refine k_aload_n 5 6 C dX0_find_5 rfl 0 rfl ?_
    refine k_get 6 9 C dX0_find_6 rfl ci_X0 11 fl_X0_52 (IsDsk.o ‹_›) (by decide) rfl ?_
    refine k_icmp_ge 9 30 12 C dX0_find_9 (by decide) rfl (fun h9 => ?_) (fun h9 => ?_)
    · refine k_null 30 31 C dX0_find_30 rfl  ?_
      refine k_aret 31 C (x := none) dX0_find_31 rfl (Or.inl ⟨_, rfl⟩) ?_
      exact ⟨rfl, by simp [h1, h9]⟩
    · refine k_iload_n 12 13 C dX0_find_12 rfl 1 rfl ?_
      refine k_aload_n 13 14 C dX0_find_13 rfl 0 rfl ?_
      refine k_getF 14 17 C dX0_find_14 rfl ci_X0 10 fl_X0_48 (IsDsk.o ‹_›) (by decide) (IsDsk.f10 ‹_›) rfl ?_
      refine k_alen 17 18 C dX0_find_17 rfl (IsDsk.a10 ‹_›) (by decide) (v := 6) rfl ?_
      refine k_icmp_ge 18 30 21 C dX0_find_18 (by decide) rfl (fun h18 => ?_) (fun h18 => ?_)
      · refine k_null 30 31 C dX0_find_30 rfl  ?_
        refine k_aret 31 C (x := none) dX0_find_31 rfl (Or.inl ⟨_, rfl⟩) ?_
        exact ⟨rfl, by simp [h1, h9, h18]⟩
      · refine k_aload_n 21 22 C dX0_find_21 rfl 0 rfl ?_
        refine k_getF 22 25 C dX0_find_22 rfl ci_X0 10 fl_X0_48 (IsDsk.o ‹_›) (by decide) (IsDsk.f10 ‹_›) rfl ?_
        refine k_iload_n 25 26 C dX0_find_25 rfl 1 rfl ?_
        refine k_aald2 26 27 C dX0_find_26 rfl (IsDsk.a10 ‹_›) (vi_of (by decide) h1 h18) ?_
        refine k_goto 27 31 C dX0_find_27 (by decide) ?_
        refine k_aret 31 C dX0_find_31 rfl (Or.inl ⟨_, rfl⟩) ?_
        exact ⟨rfl, by simp [h1, h9, h18]⟩
set_option maxHeartbeats 4000000 in
set_option maxRecDepth 100000 in
theorem ct_X1_has {E : gE} {T : gT} {l : Launch} {V : gV} {a : Nat} {i : Int32} (ha : IsDrw T a) : CtI E T l yX1_has (gw yX1_has cX1_has 2 (some .boolean)) { frames := 0, cells := 0, slots := 0, locals := 0 } [.ref a, .int i] V (fun (r : Int32) (V' : gV) => V' = V ∧ r = bi (¬ i < 0 ∧ ¬ V.1 a 7 ≤ i)) := by
  refine ctI_of (L := [(0, .ref a), (1, .int i)]) (by decide) rfl (Nat.le_of_ble_eq_true rfl) rfl (fun p e s m args below meth c C => ?_)
  refine k_iload_n 0 1 C dX1_has_0 rfl 1 rfl ?_
  refine k_if_lt 1 16 4 C dX1_has_1 (by decide) rfl (fun h1 => ?_) (fun h1 => ?_)
  · refine k_iconst 16 17 C dX1_has_16 rfl (v := 0) rfl ?_
    refine k_zret 17 C dX1_has_17 rfl (by first | exact Or.inl rfl | exact Or.inr rfl | exact bi_01) ?_
    exact ⟨rfl, by simp [bi, h1]⟩
  · refine k_iload_n 4 5 C dX1_has_4 rfl 1 rfl ?_
    refine k_aload_n 5 6 C dX1_has_5 rfl 0 rfl ?_
    refine k_get 6 9 C dX1_has_6 rfl ci_X1 7 fl_X1_34 (IsDrw.o ‹_›) (by decide) rfl ?_
    refine k_icmp_ge 9 16 12 C dX1_has_9 (by decide) rfl (fun h9 => ?_) (fun h9 => ?_)
    · refine k_iconst 16 17 C dX1_has_16 rfl (v := 0) rfl ?_
      refine k_zret 17 C dX1_has_17 rfl (by first | exact Or.inl rfl | exact Or.inr rfl | exact bi_01) ?_
      exact ⟨rfl, by simp [bi, h1, h9]⟩
    · refine k_iconst 12 13 C dX1_has_12 rfl (v := 1) rfl ?_
      refine k_goto 13 17 C dX1_has_13 (by decide) ?_
      refine k_zret 17 C dX1_has_17 rfl (by first | exact Or.inl rfl | exact Or.inr rfl | exact bi_01) ?_
      exact ⟨rfl, by simp [bi, h1, h9]⟩
