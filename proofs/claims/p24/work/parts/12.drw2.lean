def gd : Nat → Int64 → Int64 → Int64
  | 0, a, _ => a
  | k + 1, a, b => if b ≤ 0 then a else gd k b (a - a / b * b)
def lowL (num den : Int64) (part : Int32) : Int64 := if gd 100 (absl num) den ≤ 1 then (if part = 0 then num else den) else (if part = 0 then num else den) / gd 100 (absl num) den
def tfn (d : Dr) : Nat → Bool
  | 0 => false
  | j + 1 => tfn d j || (decide (100000 < lowL (vX d (nI j)) (rpt d) 1) || decide (100000 < lowL (vY d (nI j)) (rpt d) 1))
def tooF (d : Dr) : Bool := decide (100000 < lowL (rsc d) (rpt d) 0) || (decide (100000 < lowL (rsc d) (rpt d) 1) || tfn d (rn d))
theorem tfn_mono {d : Dr} {j : Nat} : ∀ {n : Nat}, j ≤ n → tfn d j = true → tfn d n = true
  | 0, h, h2 => by rw [show j = 0 by omega] at h2; exact h2
  | n + 1, h, h2 => by
    by_cases e : j = n + 1
    · rw [e] at h2; exact h2
    · have h3 := tfn_mono (d := d) (n := n) (by omega) h2
      simp [tfn, h3]
theorem tfn_step {d : Dr} {j : Nat} (hj : j < rn d) (h : 100000 < lowL (vX d (nI j)) (rpt d) 1 ∨ 100000 < lowL (vY d (nI j)) (rpt d) 1) : tfn d (rn d) = true := by
  refine tfn_mono (j := j + 1) (by omega) ?_
  rcases h with h | h <;> simp [tfn, h]
def dW (d : Dr) : Prop := 0 < rn d → rl d 0 = -1
def dTake (d : Dr) (j : Nat) : Dr := (rpa d, rsc d, rpt d, rsx d, rsy d, rhx d, rhy d, j, rX d, rY d, rl d)
theorem DV.to {V : gV} {a : Nat} {d d' : Dr} (h : DV V a d) (e0 : rpa d = rpa d') (e1 : rsc d = rsc d') (e2 : rpt d = rpt d') (e3 : rsx d = rsx d') (e4 : rsy d = rsy d') (e5 : rhx d = rhx d') (e6 : rhy d = rhy d') (e7 : rn d = rn d') (e8 : ∀ i, i < rn d' → rX d i = rX d' i ∧ rY d i = rY d' i ∧ rl d i = rl d' i) : DV V a d' := by
  obtain ⟨h0, h1, h2, h3, h4, h5, h6, h7, h8, h9⟩ := h
  refine ⟨h0.trans e0, h1.trans e1, h2.trans e2, h3.trans e3, h4.trans e4, h5.trans e5, h6.trans e6, h7.trans (by rw [e7]), e7 ▸ h8, fun i hi => ?_⟩
  obtain ⟨g1, g2, g3⟩ := h9 i (by omega)
  obtain ⟨k1, k2, k3⟩ := e8 i hi
  exact ⟨g1.trans k1, g2.trans k2, g3.trans k3⟩
set_option maxHeartbeats 4000000 in
set_option maxRecDepth 100000 in
theorem ct_X3_greatestDivisor {E : gE} {T : gT} {l : Launch} {V : gV} {a b : Int64} : CtL E T l yX3_greatestDivisor (gw yX3_greatestDivisor cX3_greatestDivisor 11 (some .long)) { frames := 0, cells := 0, slots := 0, locals := 0 } [.long a, .long b] V (fun (r : Int64) (V' : gV) => V' = V ∧ r = gd 100 a b) := by
  refine ctL_of (L := [(0, .long a), (2, .long b)]) (by decide) rfl (Nat.le_of_ble_eq_true rfl) rfl (fun p e s m args below meth c C => ?_)
  have loop9 : ∀ (f : Nat) (i : Nat) (x y : Int64), 100 - i = f → (i ≤ 100) → (gd (100 - i) x y = gd 100 a b) → KW E T V p l e { frames := 0, cells := 0, slots := 0, locals := 0 } s m args below meth c 11 0 0 (MQ below (va_Ql (fun (r : Int64) (V' : gV) => V' = V ∧ r = gd 100 a b) (RepS E T) (gA E)) args s 0 0 (gA E)) 9 [(8, .int (nI i)), (6, .long y), (4, .long x), (0, .long a), (2, .long b)] [] := by
    intro f
    induction f using Nat.strongRecOn with
    | _ f ih =>
    intro i x y hf hi hg
    refine k_iload 9 11 C dX3_greatestDivisor_9 rfl 0 rfl ?_
    refine k_bipush 11 13 C dX3_greatestDivisor_11 rfl (v := 100) rfl ?_
    refine k_icmp_ge 13 44 16 C dX3_greatestDivisor_13 (by decide) rfl (fun h13 => ?_) (fun h13 => ?_)
    · have h13 : nI 100 ≤ nI i := h13
      rw [nI_leI (by omega) (by omega)] at h13
      obtain rfl : i = 100 := by omega
      refine k_lload 44 46 C dX3_greatestDivisor_44 rfl 2 rfl ?_
      refine k_lret 46 C dX3_greatestDivisor_46 rfl ?_
      exact ⟨rfl, by rw [← hg]; first | rfl | (rw [show 100 - i = (100 - (i + 1)) + 1 by omega]; simp only [gd]; rw [if_pos h20])⟩
    · have h13 : ¬ nI 100 ≤ nI i := h13
      rw [nI_leI (by omega) (by omega)] at h13
      refine k_lload 16 18 C dX3_greatestDivisor_16 rfl 1 rfl ?_
      refine k_lconst 18 19 C dX3_greatestDivisor_18 rfl (v := 0) rfl ?_
      refine k_lcmp_le 19 20 44 23 C dX3_greatestDivisor_19 rfl dX3_greatestDivisor_20 (by decide) rfl (fun h20 => ?_) (fun h20 => ?_)
      · refine k_lload 44 46 C dX3_greatestDivisor_44 rfl 2 rfl ?_
        refine k_lret 46 C dX3_greatestDivisor_46 rfl ?_
        exact ⟨rfl, by rw [← hg]; first | rfl | (rw [show 100 - i = (100 - (i + 1)) + 1 by omega]; simp only [gd]; rw [if_pos h20])⟩
      · have h19 : ¬ y ≤ 0 := h20
        refine k_lload 23 25 C dX3_greatestDivisor_23 rfl 2 rfl ?_
        refine k_lload 25 27 C dX3_greatestDivisor_25 rfl 1 rfl ?_
        refine k_lrem 27 28 C dX3_greatestDivisor_27 rfl (fun z => h20 (by rw [z]; decide)) ?_
        refine k_lstore 28 30 C [(9, _), (8, _), (6, _), (4, _), (0, _), (2, _)] dX3_greatestDivisor_28 rfl (by decide) rfl ?_
        refine k_lload 30 32 C dX3_greatestDivisor_30 rfl 2 rfl ?_
        refine k_lstore 32 34 C [(4, _), (9, _), (8, _), (6, _), (0, _), (2, _)] dX3_greatestDivisor_32 rfl (by decide) rfl ?_
        refine k_lload 34 36 C dX3_greatestDivisor_34 rfl 1 rfl ?_
        refine k_lstore 36 38 C [(6, _), (4, _), (9, _), (8, _), (0, _), (2, _)] dX3_greatestDivisor_36 rfl (by decide) rfl ?_
        refine k_iinc 38 41 C [(8, _), (6, _), (4, _), (9, _), (0, _), (2, _)] (nI (i + 1)) dX3_greatestDivisor_38 rfl 3 rfl (nI_1 i) (by decide) rfl ?_
        refine k_goto 41 9 C dX3_greatestDivisor_41 (by decide) ?_
        refine k_perm [0, 1, 2, 4, 5] (L' := [(8, _), (6, _), (4, _), (0, _), (2, _)]) rfl ?_
        exact ih (100 - (i + 1)) (by omega) (i + 1) _ _ rfl (by omega) (by rw [← hg, show 100 - i = (100 - (i + 1)) + 1 by omega]; simp only [gd]; rw [if_neg h19])
  refine k_lload_n 0 1 C dX3_greatestDivisor_0 rfl 0 rfl ?_
  refine k_lstore 1 3 C [(4, _), (0, _), (2, _)] dX3_greatestDivisor_1 rfl (by decide) rfl ?_
  refine k_lload_n 3 4 C dX3_greatestDivisor_3 rfl 2 rfl ?_
  refine k_lstore 4 6 C [(6, _), (4, _), (0, _), (2, _)] dX3_greatestDivisor_4 rfl (by decide) rfl ?_
  refine k_iconst 6 7 C dX3_greatestDivisor_6 rfl (v := 0) rfl ?_
  refine k_istore 7 9 C [(8, _), (6, _), (4, _), (0, _), (2, _)] dX3_greatestDivisor_7 rfl (by decide) rfl ?_
  exact loop9 _ 0 a b rfl (Nat.zero_le _) rfl
set_option maxHeartbeats 4000000 in
set_option maxRecDepth 100000 in
theorem ct_X3_lowest {E : gE} {T : gT} {l : Launch} {V : gV} {a b : Int64} {c0 : Int32} : CtL E T l yX3_lowest (gw yX3_lowest cX3_lowest 9 (some .long)) { frames := 1, cells := 0, slots := 0, locals := 30 } [.long a, .long b, .int c0] V (fun (r : Int64) (V' : gV) => V' = V ∧ r = lowL a b c0) := by
  refine ctL_of (L := [(0, .long a), (2, .long b), (4, .int c0)]) (by decide) rfl (Nat.le_of_ble_eq_true rfl) rfl (fun p e s m args below meth c C => ?_)
  refine k_iload 0 2 C dX3_lowest_0 rfl 2 rfl ?_
  refine k_if_ne 2 9 5 C dX3_lowest_2 (by decide) rfl (fun h2 => ?_) (fun h2 => ?_)
  · refine k_lload_n 9 10 C dX3_lowest_9 rfl 1 rfl ?_
    refine k_lstore 10 12 C [(5, _), (0, _), (2, _), (4, _)] dX3_lowest_10 rfl (by decide) rfl ?_
    refine k_lload_n 12 13 C dX3_lowest_12 rfl 1 rfl ?_
    refine k_absl 13 16 C dX3_lowest_13 rfl ml_X3_236 (Nat.le_of_ble_eq_true rfl) (Nat.le_of_ble_eq_true rfl) (Nat.zero_le _) (Nat.zero_le _) ?_
    refine k_lload_n 16 17 C dX3_lowest_16 rfl 2 rfl ?_
    refine k_callSL 17 20 C [_, _] [] dX3_lowest_17 rfl ct_X3_greatestDivisor mi_X3_greatestDivisor ml_X3_241 st_X3_greatestDivisor rfl rfl ⟨Nat.le_of_ble_eq_true rfl, Nat.le_of_ble_eq_true rfl⟩ (Nat.le_of_ble_eq_true rfl) (Nat.zero_le _) (Nat.zero_le _) (fun r17 V17 p17 => ?_)
    obtain ⟨rfl, rfl⟩ := And.intro p17.1.symm p17.2
    refine k_lstore 20 22 C [(7, _), (5, _), (0, _), (2, _), (4, _)] dX3_lowest_20 rfl (by decide) rfl ?_
    refine k_lload 22 24 C dX3_lowest_22 rfl 0 rfl ?_
    refine k_lconst 24 25 C dX3_lowest_24 rfl (v := 1) rfl ?_
    refine k_lcmp_le 25 26 37 29 C dX3_lowest_25 rfl dX3_lowest_26 (by decide) rfl (fun h26 => ?_) (fun h26 => ?_)
    · refine k_lload 37 39 C dX3_lowest_37 rfl 1 rfl ?_
      refine k_lret 39 C dX3_lowest_39 rfl ?_
      refine ⟨rfl, ?_⟩
      unfold lowL absl
      simp only [h2, if_true, if_false]
      first | rw [if_pos h26] | rw [if_neg h26]
    · have hz : ¬ gd 100 (absl a) b = 0 := fun z => h26 (by rw [show (gd 100 (if 0 < a then a else -a) b) = 0 from z]; decide)
      refine k_lload 29 31 C dX3_lowest_29 rfl 1 rfl ?_
      refine k_lload 31 33 C dX3_lowest_31 rfl 0 rfl ?_
      refine k_ldiv 33 34 C dX3_lowest_33 rfl hz ?_
      refine k_goto 34 39 C dX3_lowest_34 (by decide) ?_
      refine k_lret 39 C dX3_lowest_39 rfl ?_
      refine ⟨rfl, ?_⟩
      unfold lowL absl
      simp only [h2, if_true, if_false]
      first | rw [if_pos h26] | rw [if_neg h26]
  · refine k_lload_n 5 6 C dX3_lowest_5 rfl 0 rfl ?_
    refine k_goto 6 10 C dX3_lowest_6 (by decide) ?_
    refine k_lstore 10 12 C [(5, _), (0, _), (2, _), (4, _)] dX3_lowest_10 rfl (by decide) rfl ?_
    refine k_lload_n 12 13 C dX3_lowest_12 rfl 1 rfl ?_
    refine k_absl 13 16 C dX3_lowest_13 rfl ml_X3_236 (Nat.le_of_ble_eq_true rfl) (Nat.le_of_ble_eq_true rfl) (Nat.zero_le _) (Nat.zero_le _) ?_
    refine k_lload_n 16 17 C dX3_lowest_16 rfl 2 rfl ?_
    refine k_callSL 17 20 C [_, _] [] dX3_lowest_17 rfl ct_X3_greatestDivisor mi_X3_greatestDivisor ml_X3_241 st_X3_greatestDivisor rfl rfl ⟨Nat.le_of_ble_eq_true rfl, Nat.le_of_ble_eq_true rfl⟩ (Nat.le_of_ble_eq_true rfl) (Nat.zero_le _) (Nat.zero_le _) (fun r17 V17 p17 => ?_)
    obtain ⟨rfl, rfl⟩ := And.intro p17.1.symm p17.2
    refine k_lstore 20 22 C [(7, _), (5, _), (0, _), (2, _), (4, _)] dX3_lowest_20 rfl (by decide) rfl ?_
    refine k_lload 22 24 C dX3_lowest_22 rfl 0 rfl ?_
    refine k_lconst 24 25 C dX3_lowest_24 rfl (v := 1) rfl ?_
    refine k_lcmp_le 25 26 37 29 C dX3_lowest_25 rfl dX3_lowest_26 (by decide) rfl (fun h26 => ?_) (fun h26 => ?_)
    · refine k_lload 37 39 C dX3_lowest_37 rfl 1 rfl ?_
      refine k_lret 39 C dX3_lowest_39 rfl ?_
      refine ⟨rfl, ?_⟩
      unfold lowL absl
      simp only [h2, if_true, if_false]
      first | rw [if_pos h26] | rw [if_neg h26]
    · have hz : ¬ gd 100 (absl a) b = 0 := fun z => h26 (by rw [show (gd 100 (if 0 < a then a else -a) b) = 0 from z]; decide)
      refine k_lload 29 31 C dX3_lowest_29 rfl 1 rfl ?_
      refine k_lload 31 33 C dX3_lowest_31 rfl 0 rfl ?_
      refine k_ldiv 33 34 C dX3_lowest_33 rfl hz ?_
      refine k_goto 34 39 C dX3_lowest_34 (by decide) ?_
      refine k_lret 39 C dX3_lowest_39 rfl ?_
      refine ⟨rfl, ?_⟩
      unfold lowL absl
      simp only [h2, if_true, if_false]
      first | rw [if_pos h26] | rw [if_neg h26]
set_option maxHeartbeats 4000000 in
set_option maxRecDepth 100000 in
theorem ct_X1_isTooFine {E : gE} {T : gT} {l : Launch} {V : gV} {a : Nat} {d : Dr} (ha : IsDrw T a) (hd : DV V a d) : CtI E T l yX1_isTooFine (gw yX1_isTooFine cX1_isTooFine 2 (some .boolean)) { frames := 2, cells := 0, slots := 0, locals := 58 } [.ref a] V (fun (r : Int32) (V' : gV) => V' = V ∧ r = bi (tooF d = true)) := by
  refine ctI_of (L := [(0, .ref a)]) (by decide) rfl (Nat.le_of_ble_eq_true rfl) rfl (fun p e s m args below meth c C => ?_)
  have loop42 : ∀ (f : Nat) (j : Nat), rn d - j = f → (j ≤ rn d) → (¬ 100000 < lowL (rsc d) (rpt d) 0) → (¬ 100000 < lowL (rsc d) (rpt d) 1) → (tfn d j = false) → KW E T V p l e { frames := 2, cells := 0, slots := 0, locals := 58 } s m args below meth c 2 0 0 (MQ below (va_Qi (fun (r : Int32) (V' : gV) => V' = V ∧ r = bi (tooF d = true)) (RepS E T) (gA E)) args s 0 0 (gA E)) 42 [(1, .int (nI j)), (0, .ref a)] [] := by
    intro f
    induction f using Nat.strongRecOn with
    | _ f ih =>
    intro j hf hj h0 h1 ht
    refine k_iload_n 42 43 C dX1_isTooFine_42 rfl 0 rfl ?_
    refine k_aload_n 43 44 C dX1_isTooFine_43 rfl 1 rfl ?_
    refine k_get 44 47 C dX1_isTooFine_44 rfl ci_X1 7 fl_X1_34 (IsDrw.o ‹_›) (by decide) rfl ?_
    refine k_rwI (hd.f7) ?_
    refine k_icmp_ge 47 98 50 C dX1_isTooFine_47 (by decide) rfl (fun h47 => ?_) (fun h47 => ?_)
    · rw [n20 hd.le (Nat.le_trans hj hd.le)] at h47
      obtain rfl : j = rn d := by omega
      refine k_iconst 98 99 C dX1_isTooFine_98 rfl (v := 0) rfl ?_
      refine k_zret 99 C dX1_isTooFine_99 rfl (by first | exact Or.inl rfl | exact Or.inr rfl | exact bi_01) ?_
      refine ⟨rfl, (bi_f ?_).symm⟩
      simp [tooF, h0, h1, ht]
    · rw [n20 hd.le (Nat.le_trans hj hd.le)] at h47
      refine k_aload_n 50 51 C dX1_isTooFine_50 rfl 1 rfl ?_
      refine k_iload_n 51 52 C dX1_isTooFine_51 rfl 0 rfl ?_
      refine k_callVL 52 55 C [_] [] dX1_isTooFine_52 rfl (ct_X1_x ‹_› ‹_›) mi_X1_x ml_X1_52 im_X1_x se_X1_x ci_X1 (IsDrw.o ‹_›) rfl rfl ⟨Nat.le_of_ble_eq_true rfl, Nat.le_of_ble_eq_true rfl⟩ (Nat.le_of_ble_eq_true rfl) (Nat.zero_le _) (Nat.zero_le _) (fun r52 V52 p52 => ?_)
      obtain ⟨rfl, rfl⟩ := And.intro p52.1.symm p52.2
      refine k_aload_n 55 56 C dX1_isTooFine_55 rfl 1 rfl ?_
      refine k_get 56 59 C dX1_isTooFine_56 rfl ci_X1 2 fl_X1_19 (IsDrw.o ‹_›) (by decide) rfl ?_
      refine k_rwL (hd.f2) ?_
      refine k_iconst 59 60 C dX1_isTooFine_59 rfl (v := 1) rfl ?_
      refine k_callSNL 60 63 C [_, _, _] [] dX1_isTooFine_60 rfl ct_X3_lowest mi_X3_lowest mn_X1_91 st_X3_lowest rfl rfl ⟨Nat.le_of_ble_eq_true rfl, Nat.le_of_ble_eq_true rfl⟩ (Nat.le_of_ble_eq_true rfl) (Nat.zero_le _) (Nat.zero_le _) (fun r60 V60 p60 => ?_)
      obtain ⟨rfl, rfl⟩ := And.intro p60.1.symm p60.2
      refine k_ldc2 63 66 C dX1_isTooFine_63 rfl kl_X1_95 ?_
      refine k_lcmp_gt 66 67 90 70 C dX1_isTooFine_66 rfl dX1_isTooFine_67 (by decide) rfl (fun h67 => ?_) (fun h67 => ?_)
      · refine k_iconst 90 91 C dX1_isTooFine_90 rfl (v := 1) rfl ?_
        refine k_zret 91 C dX1_isTooFine_91 rfl (by first | exact Or.inl rfl | exact Or.inr rfl | exact bi_01) ?_
        refine ⟨rfl, (bi_t ?_).symm⟩
        have hs : tfn d (rn d) = true := tfn_step (d := d) (j := j) (by omega) (by first | exact Or.inl h67 | exact Or.inr (i64_not_le.mp h87))
        simp [tooF, hs]
      · refine k_aload_n 70 71 C dX1_isTooFine_70 rfl 1 rfl ?_
        refine k_iload_n 71 72 C dX1_isTooFine_71 rfl 0 rfl ?_
        refine k_callVL 72 75 C [_] [] dX1_isTooFine_72 rfl (ct_X1_y ‹_› ‹_›) mi_X1_y ml_X1_56 im_X1_y se_X1_y ci_X1 (IsDrw.o ‹_›) rfl rfl ⟨Nat.le_of_ble_eq_true rfl, Nat.le_of_ble_eq_true rfl⟩ (Nat.le_of_ble_eq_true rfl) (Nat.zero_le _) (Nat.zero_le _) (fun r72 V72 p72 => ?_)
        obtain ⟨rfl, rfl⟩ := And.intro p72.1.symm p72.2
        refine k_aload_n 75 76 C dX1_isTooFine_75 rfl 1 rfl ?_
        refine k_get 76 79 C dX1_isTooFine_76 rfl ci_X1 2 fl_X1_19 (IsDrw.o ‹_›) (by decide) rfl ?_
        refine k_rwL (hd.f2) ?_
        refine k_iconst 79 80 C dX1_isTooFine_79 rfl (v := 1) rfl ?_
        refine k_callSNL 80 83 C [_, _, _] [] dX1_isTooFine_80 rfl ct_X3_lowest mi_X3_lowest mn_X1_91 st_X3_lowest rfl rfl ⟨Nat.le_of_ble_eq_true rfl, Nat.le_of_ble_eq_true rfl⟩ (Nat.le_of_ble_eq_true rfl) (Nat.zero_le _) (Nat.zero_le _) (fun r80 V80 p80 => ?_)
        obtain ⟨rfl, rfl⟩ := And.intro p80.1.symm p80.2
        refine k_ldc2 83 86 C dX1_isTooFine_83 rfl kl_X1_95 ?_
        refine k_lcmp_le 86 87 92 90 C dX1_isTooFine_86 rfl dX1_isTooFine_87 (by decide) rfl (fun h87 => ?_) (fun h87 => ?_)
        · refine k_iinc 92 95 C [(1, _), (0, _)] (nI (j + 1)) dX1_isTooFine_92 rfl 0 rfl (nI_1 j) (by decide) rfl ?_
          refine k_goto 95 42 C dX1_isTooFine_95 (by decide) ?_
          exact ih (rn d - (j + 1)) (by omega) (j + 1) rfl (by omega) h0 h1 (by simp only [tfn, ht, Bool.false_or, Bool.or_eq_false_iff, decide_eq_false_iff_not]; exact ⟨h67, i64_not_lt.mpr h87⟩)
        · refine k_iconst 90 91 C dX1_isTooFine_90 rfl (v := 1) rfl ?_
          refine k_zret 91 C dX1_isTooFine_91 rfl (by first | exact Or.inl rfl | exact Or.inr rfl | exact bi_01) ?_
          refine ⟨rfl, (bi_t ?_).symm⟩
          have hs : tfn d (rn d) = true := tfn_step (d := d) (j := j) (by omega) (by first | exact Or.inl h67 | exact Or.inr (i64_not_le.mp h87))
          simp [tooF, hs]
  refine k_aload_n 0 1 C dX1_isTooFine_0 rfl 0 rfl ?_
  refine k_get 1 4 C dX1_isTooFine_1 rfl ci_X1 1 fl_X1_15 (IsDrw.o ‹_›) (by decide) rfl ?_
  refine k_rwL (hd.f1) ?_
  refine k_aload_n 4 5 C dX1_isTooFine_4 rfl 0 rfl ?_
  refine k_get 5 8 C dX1_isTooFine_5 rfl ci_X1 2 fl_X1_19 (IsDrw.o ‹_›) (by decide) rfl ?_
  refine k_rwL (hd.f2) ?_
  refine k_iconst 8 9 C dX1_isTooFine_8 rfl (v := 0) rfl ?_
  refine k_callSNL 9 12 C [_, _, _] [] dX1_isTooFine_9 rfl ct_X3_lowest mi_X3_lowest mn_X1_91 st_X3_lowest rfl rfl ⟨Nat.le_of_ble_eq_true rfl, Nat.le_of_ble_eq_true rfl⟩ (Nat.le_of_ble_eq_true rfl) (Nat.zero_le _) (Nat.zero_le _) (fun r9 V9 p9 => ?_)
  obtain ⟨rfl, rfl⟩ := And.intro p9.1.symm p9.2
  refine k_ldc2 12 15 C dX1_isTooFine_12 rfl kl_X1_95 ?_
  refine k_lcmp_gt 15 16 38 19 C dX1_isTooFine_15 rfl dX1_isTooFine_16 (by decide) rfl (fun h16 => ?_) (fun h16 => ?_)
  · refine k_iconst 38 39 C dX1_isTooFine_38 rfl (v := 1) rfl ?_
    refine k_zret 39 C dX1_isTooFine_39 rfl (by first | exact Or.inl rfl | exact Or.inr rfl | exact bi_01) ?_
    refine ⟨rfl, (bi_t ?_).symm⟩
    first | simp [tooF, h16]; done | simp [tooF, i64_not_le.mp h35]
  · refine k_aload_n 19 20 C dX1_isTooFine_19 rfl 0 rfl ?_
    refine k_get 20 23 C dX1_isTooFine_20 rfl ci_X1 1 fl_X1_15 (IsDrw.o ‹_›) (by decide) rfl ?_
    refine k_rwL (hd.f1) ?_
    refine k_aload_n 23 24 C dX1_isTooFine_23 rfl 0 rfl ?_
    refine k_get 24 27 C dX1_isTooFine_24 rfl ci_X1 2 fl_X1_19 (IsDrw.o ‹_›) (by decide) rfl ?_
    refine k_rwL (hd.f2) ?_
    refine k_iconst 27 28 C dX1_isTooFine_27 rfl (v := 1) rfl ?_
    refine k_callSNL 28 31 C [_, _, _] [] dX1_isTooFine_28 rfl ct_X3_lowest mi_X3_lowest mn_X1_91 st_X3_lowest rfl rfl ⟨Nat.le_of_ble_eq_true rfl, Nat.le_of_ble_eq_true rfl⟩ (Nat.le_of_ble_eq_true rfl) (Nat.zero_le _) (Nat.zero_le _) (fun r28 V28 p28 => ?_)
    obtain ⟨rfl, rfl⟩ := And.intro p28.1.symm p28.2
    refine k_ldc2 31 34 C dX1_isTooFine_31 rfl kl_X1_95 ?_
    refine k_lcmp_le 34 35 40 38 C dX1_isTooFine_34 rfl dX1_isTooFine_35 (by decide) rfl (fun h35 => ?_) (fun h35 => ?_)
    · refine k_iconst 40 41 C dX1_isTooFine_40 rfl (v := 0) rfl ?_
      refine k_istore_n 41 42 C [(1, _), (0, _)] dX1_isTooFine_41 rfl (by decide) rfl ?_
      exact loop42 _ 0 rfl (Nat.zero_le _) h16 (fun z => i64_not_lt.mpr h35 z) rfl
    · refine k_iconst 38 39 C dX1_isTooFine_38 rfl (v := 1) rfl ?_
      refine k_zret 39 C dX1_isTooFine_39 rfl (by first | exact Or.inl rfl | exact Or.inr rfl | exact bi_01) ?_
      refine ⟨rfl, (bi_t ?_).symm⟩
      first | simp [tooF, h16]; done | simp [tooF, i64_not_le.mp h35]
theorem dTake_step {V1 : gV} {a : Nat} {d : Dr} {j : Nat} (hn : rn d ≤ 20) (hj : j < rn d) (hw : dW d) (h : DV V1 a (dAdd (dTake d j) (vX d (nI j)) (vY d (nI j)) (vL d (nI j)))) : DV V1 a (dTake d (j + 1)) := by
  have hb : ¬ nI j < 0 ∧ ¬ nI (rn d) ≤ nI j := ⟨nI_pos (by omega), by rw [n20 hn (by omega)]; omega⟩
  have hc : (nI j).toNatClampNeg = j := nI_clamp (by omega)
  refine h.to rfl rfl rfl rfl rfl rfl rfl rfl (fun i hi => ?_)
  have hi' : i < j + 1 := hi
  by_cases e : i = j
  · subst e
    refine ⟨?_, ?_, ?_⟩
    · show va_up _ i _ i = _; rw [va_up_self]; unfold vX; rw [if_pos hb, hc]; rfl
    · show va_up _ i _ i = _; rw [va_up_self]; unfold vY; rw [if_pos hb, hc]; rfl
    · show va_up _ i (if i = 0 then -1 else vL d (nI i)) i = _; rw [va_up_self]; unfold vL
      by_cases e0 : i = 0
      · subst e0; rw [if_pos rfl]; exact (hw hj).symm
      · rw [if_neg e0, if_pos hb, hc]; rfl
  · refine ⟨?_, ?_, ?_⟩
    · show va_up _ j _ i = _; rw [va_up_ne _ _ e]; rfl
    · show va_up _ j _ i = _; rw [va_up_ne _ _ e]; rfl
    · show va_up _ j _ i = _; rw [va_up_ne _ _ e]; rfl
set_option maxHeartbeats 4000000 in
set_option maxRecDepth 100000 in
theorem ct_X1_takeFrom {E : gE} {T : gT} {l : Launch} {V : gV} {a b : Nat} {d : Dr} (ha : IsDrw T a) (hb : IsDrw T b) (hd : DV V b d) (hw : dW d) (hab : a + 4 ≤ b ∨ b + 4 ≤ a) : CtV E T l yX1_takeFrom (gw yX1_takeFrom cX1_takeFrom 3 none) { frames := 2, cells := 0, slots := 0, locals := 42 } [.ref a, .ref b] V (fun (V' : gV) => DV V' a d ∧ Off V V' a (a + 4)) := by
  refine ctV_of (L := [(0, .ref a), (1, .ref b)]) (by decide) rfl (Nat.le_of_ble_eq_true rfl) rfl (fun p e s m args below meth c C => ?_)
  have loop50 : ∀ (f : Nat) (V1 : gV) (j : Nat), rn d - j = f → (j ≤ rn d) → (DV V1 a (dTake d j)) → (Off V V1 a (a + 4)) → KW E T V1 p l e { frames := 2, cells := 0, slots := 0, locals := 42 } s m args below meth c 3 0 0 (MQ below (va_Qv (fun (V' : gV) => DV V' a d ∧ Off V V' a (a + 4)) (RepS E T) (gA E)) args s 0 0 (gA E)) 50 [(2, .int (nI j)), (0, .ref a), (1, .ref b)] [] := by
    intro f
    induction f using Nat.strongRecOn with
    | _ f ih =>
    intro V1 j hf hj g1 g2
    have g3 := hd.off g2 (by omega)
    refine k_iload_n 50 51 C dX1_takeFrom_50 rfl 0 rfl ?_
    refine k_aload_n 51 52 C dX1_takeFrom_51 rfl 2 rfl ?_
    refine k_get 52 55 C dX1_takeFrom_52 rfl ci_X1 7 fl_X1_34 (IsDrw.o hb) (by decide) rfl ?_
    refine k_rwI (g3.f7) ?_
    refine k_icmp_ge 55 83 58 C dX1_takeFrom_55 (by decide) rfl (fun h55 => ?_) (fun h55 => ?_)
    · rw [n20 hd.le (Nat.le_trans hj hd.le)] at h55
      obtain rfl : j = rn d := by omega
      refine k_vret 83 C dX1_takeFrom_83 rfl ?_
      exact ⟨g1.to rfl rfl rfl rfl rfl rfl rfl rfl (fun i hi => ⟨rfl, rfl, rfl⟩), g2⟩
    · rw [n20 hd.le (Nat.le_trans hj hd.le)] at h55
      refine k_aload_n 58 59 C dX1_takeFrom_58 rfl 1 rfl ?_
      refine k_aload_n 59 60 C dX1_takeFrom_59 rfl 2 rfl ?_
      refine k_iload_n 60 61 C dX1_takeFrom_60 rfl 0 rfl ?_
      refine k_callVL 61 64 C [_] [_] dX1_takeFrom_61 rfl (ct_X1_x hb g3) mi_X1_x ml_X1_52 im_X1_x se_X1_x ci_X1 (IsDrw.o hb) rfl rfl ⟨Nat.le_of_ble_eq_true rfl, Nat.le_of_ble_eq_true rfl⟩ (Nat.le_of_ble_eq_true rfl) (Nat.zero_le _) (Nat.zero_le _) (fun r61 V61 p61 => ?_)
      obtain ⟨rfl, rfl⟩ := And.intro p61.1.symm p61.2
      refine k_aload_n 64 65 C dX1_takeFrom_64 rfl 2 rfl ?_
      refine k_iload_n 65 66 C dX1_takeFrom_65 rfl 0 rfl ?_
      refine k_callVL 66 69 C [_] [_, _] dX1_takeFrom_66 rfl (ct_X1_y hb g3) mi_X1_y ml_X1_56 im_X1_y se_X1_y ci_X1 (IsDrw.o hb) rfl rfl ⟨Nat.le_of_ble_eq_true rfl, Nat.le_of_ble_eq_true rfl⟩ (Nat.le_of_ble_eq_true rfl) (Nat.zero_le _) (Nat.zero_le _) (fun r66 V66 p66 => ?_)
      obtain ⟨rfl, rfl⟩ := And.intro p66.1.symm p66.2
      refine k_aload_n 69 70 C dX1_takeFrom_69 rfl 2 rfl ?_
      refine k_iload_n 70 71 C dX1_takeFrom_70 rfl 0 rfl ?_
      refine k_callVI 71 74 C [_] [_, _, _] dX1_takeFrom_71 rfl (ct_X1_line hb g3) mi_X1_line ml_X1_59 im_X1_line se_X1_line ci_X1 (IsDrw.o hb) rfl rfl ⟨Nat.le_of_ble_eq_true rfl, Nat.le_of_ble_eq_true rfl⟩ (Nat.le_of_ble_eq_true rfl) (Nat.zero_le _) (Nat.zero_le _) (fun r71 V71 p71 => ?_)
      obtain ⟨rfl, rfl⟩ := And.intro p71.1.symm p71.2
      refine k_callVV 74 77 C [_, _, _] [] dX1_takeFrom_74 rfl (ct_X1_add ha g1 (show j < 20 by have := hd.le; omega)) mi_X1_add ml_X1_63 im_X1_add se_X1_add ci_X1 (IsDrw.o ha) rfl rfl ⟨Nat.le_of_ble_eq_true rfl, Nat.le_of_ble_eq_true rfl⟩ (Nat.le_of_ble_eq_true rfl) (Nat.zero_le _) (Nat.zero_le _) (fun V74 p74 => ?_)
      refine k_iinc 77 80 C [(2, _), (0, _), (1, _)] (nI (j + 1)) dX1_takeFrom_77 rfl 0 rfl (nI_1 j) (by decide) rfl ?_
      refine k_goto 80 50 C dX1_takeFrom_80 (by decide) ?_
      exact ih (rn d - (j + 1)) (by omega) V74 (j + 1) rfl (by omega) (dTake_step hd.le (by omega) hw p74.1) (g2.trans p74.2)
  refine k_aload_n 0 1 C dX1_takeFrom_0 rfl 0 rfl ?_
  refine k_aload_n 1 2 C dX1_takeFrom_1 rfl 1 rfl ?_
  refine k_get 2 5 C dX1_takeFrom_2 rfl ci_X1 0 fl_X1_9 (IsDrw.o hb) (by decide) rfl ?_
  refine k_rwI (hd.f0) ?_
  refine k_aload_n 5 6 C dX1_takeFrom_5 rfl 1 rfl ?_
  refine k_get 6 9 C dX1_takeFrom_6 rfl ci_X1 1 fl_X1_15 (IsDrw.o hb) (by decide) rfl ?_
  refine k_rwL (hd.f1) ?_
  refine k_aload_n 9 10 C dX1_takeFrom_9 rfl 1 rfl ?_
  refine k_get 10 13 C dX1_takeFrom_10 rfl ci_X1 2 fl_X1_19 (IsDrw.o hb) (by decide) rfl ?_
  refine k_rwL (hd.f2) ?_
  refine k_callVV 13 16 C [_, _, _] [] dX1_takeFrom_13 rfl (ct_X1_begin ha) mi_X1_begin ml_X1_48 im_X1_begin se_X1_begin ci_X1 (IsDrw.o ha) rfl rfl ⟨Nat.le_of_ble_eq_true rfl, Nat.le_of_ble_eq_true rfl⟩ (Nat.le_of_ble_eq_true rfl) (Nat.zero_le _) (Nat.zero_le _) (fun V13 p13 => ?_)
  have e13 := hd.off p13.2 (by omega)
  refine k_aload_n 16 17 C dX1_takeFrom_16 rfl 0 rfl ?_
  refine k_aload_n 17 18 C dX1_takeFrom_17 rfl 1 rfl ?_
  refine k_get 18 21 C dX1_takeFrom_18 rfl ci_X1 3 fl_X1_22 (IsDrw.o hb) (by decide) rfl ?_
  refine k_rwI (e13.f3) ?_
  refine k_put 21 24 C dX1_takeFrom_21 rfl ci_X1 3 fl_X1_22 (IsDrw.o ha) (by decide) rfl rfl rfl wI_off (ps_1_3 _ _ _ _) ?_
  have o1 := p13.2.wI (k := 3) (x := rsx d) (Nat.le_refl a) (by omega)
  have e14 := hd.off o1 (by omega)
  refine k_aload_n 24 25 C dX1_takeFrom_24 rfl 0 rfl ?_
  refine k_aload_n 25 26 C dX1_takeFrom_25 rfl 1 rfl ?_
  refine k_get 26 29 C dX1_takeFrom_26 rfl ci_X1 4 fl_X1_25 (IsDrw.o hb) (by decide) rfl ?_
  refine k_rwI (e14.f4) ?_
  refine k_put 29 32 C dX1_takeFrom_29 rfl ci_X1 4 fl_X1_25 (IsDrw.o ha) (by decide) rfl rfl rfl wI_off (ps_1_4 _ _ _ _) ?_
  have o2 := o1.wI (k := 4) (x := rsy d) (Nat.le_refl a) (by omega)
  have e15 := hd.off o2 (by omega)
  refine k_aload_n 32 33 C dX1_takeFrom_32 rfl 0 rfl ?_
  refine k_aload_n 33 34 C dX1_takeFrom_33 rfl 1 rfl ?_
  refine k_get 34 37 C dX1_takeFrom_34 rfl ci_X1 5 fl_X1_28 (IsDrw.o hb) (by decide) rfl ?_
  refine k_rwL (e15.f5) ?_
  refine k_put 37 40 C dX1_takeFrom_37 rfl ci_X1 5 fl_X1_28 (IsDrw.o ha) (by decide) rfl rfl rfl wL_off (ps_1_5 _ _ _ _) ?_
  have o3 := o2.wL (k := 5) (x := rhx d) (Nat.le_refl a) (by omega)
  have e16 := hd.off o3 (by omega)
  refine k_aload_n 40 41 C dX1_takeFrom_40 rfl 0 rfl ?_
  refine k_aload_n 41 42 C dX1_takeFrom_41 rfl 1 rfl ?_
  refine k_get 42 45 C dX1_takeFrom_42 rfl ci_X1 6 fl_X1_31 (IsDrw.o hb) (by decide) rfl ?_
  refine k_rwL (e16.f6) ?_
  refine k_put 45 48 C dX1_takeFrom_45 rfl ci_X1 6 fl_X1_31 (IsDrw.o ha) (by decide) rfl rfl rfl wL_off (ps_1_6 _ _ _ _) ?_
  have o4 := o3.wL (k := 6) (x := rhy d) (Nat.le_refl a) (by omega)
  refine k_iconst 48 49 C dX1_takeFrom_48 rfl (v := 0) rfl ?_
  refine k_istore_n 49 50 C [(2, _), (0, _), (1, _)] dX1_takeFrom_49 rfl (by decide) rfl ?_
  refine loop50 _ _ 0 rfl (Nat.zero_le _) ?_ o4
  have hh := p13.1
  obtain ⟨q0, q1, q2, q3, q4, q5, q6, q7, q8, q9⟩ := hh
  exact ⟨by simp [wI, wL, upd]; exact q0, by simp [wI, wL, vp_updL]; exact q1, by simp [wI, wL, vp_updL]; exact q2, by simp [wI, wL, upd]; rfl, by simp [wI, wL, upd]; rfl, by simp [wI, wL, vp_updL]; rfl, by simp [wI, wL, vp_updL]; rfl, by simp [wI, wL, upd]; exact q7, Nat.zero_le _, fun i hi => absurd hi (Nat.not_lt_zero i)⟩
set_option maxHeartbeats 4000000 in
set_option maxRecDepth 100000 in
theorem ct_X1_ratioAsFloat {E : gE} {T : gT} {l : Launch} {V : gV} {a : Nat} {d : Dr} (ha : IsDrw T a) (hd : DV V a d) (hf : ¬ lowL (rsc d) (rpt d) 1 ≤ 0 → vf_n32 (FP.fdiv (FP.l2f (lowL (rsc d) (rpt d) 0)) (FP.l2f (lowL (rsc d) (rpt d) 1)))) : CtF E T l yX1_ratioAsFloat (gw yX1_ratioAsFloat cX1_ratioAsFloat 5 (some .float)) { frames := 2, cells := 0, slots := 0, locals := 58 } [.ref a] V (fun (r : UInt32) (V' : gV) => V' = V ∧ r = if lowL (rsc d) (rpt d) 1 ≤ 0 then FP.fconst1 else FP.fdiv (FP.l2f (lowL (rsc d) (rpt d) 0)) (FP.l2f (lowL (rsc d) (rpt d) 1))) := by
  refine ctF_of (L := [(0, .ref a)]) (by decide) rfl (Nat.le_of_ble_eq_true rfl) rfl (fun p e s m args below meth c C => ?_)
  refine k_aload_n 0 1 C dX1_ratioAsFloat_0 rfl 0 rfl ?_
  refine k_get 1 4 C dX1_ratioAsFloat_1 rfl ci_X1 1 fl_X1_15 (IsDrw.o ‹_›) (by decide) rfl ?_
  refine k_rwL (hd.f1) ?_
  refine k_aload_n 4 5 C dX1_ratioAsFloat_4 rfl 0 rfl ?_
  refine k_get 5 8 C dX1_ratioAsFloat_5 rfl ci_X1 2 fl_X1_19 (IsDrw.o ‹_›) (by decide) rfl ?_
  refine k_rwL (hd.f2) ?_
  refine k_iconst 8 9 C dX1_ratioAsFloat_8 rfl (v := 0) rfl ?_
  refine k_callSNL 9 12 C [_, _, _] [] dX1_ratioAsFloat_9 rfl ct_X3_lowest mi_X3_lowest mn_X1_91 st_X3_lowest rfl rfl ⟨Nat.le_of_ble_eq_true rfl, Nat.le_of_ble_eq_true rfl⟩ (Nat.le_of_ble_eq_true rfl) (Nat.zero_le _) (Nat.zero_le _) (fun r9 V9 p9 => ?_)
  obtain ⟨rfl, rfl⟩ := And.intro p9.1.symm p9.2
  refine k_lstore_n 12 13 C [(1, _), (0, _)] dX1_ratioAsFloat_12 rfl (by decide) rfl ?_
  refine k_aload_n 13 14 C dX1_ratioAsFloat_13 rfl 1 rfl ?_
  refine k_get 14 17 C dX1_ratioAsFloat_14 rfl ci_X1 1 fl_X1_15 (IsDrw.o ‹_›) (by decide) rfl ?_
  refine k_rwL (hd.f1) ?_
  refine k_aload_n 17 18 C dX1_ratioAsFloat_17 rfl 1 rfl ?_
  refine k_get 18 21 C dX1_ratioAsFloat_18 rfl ci_X1 2 fl_X1_19 (IsDrw.o ‹_›) (by decide) rfl ?_
  refine k_rwL (hd.f2) ?_
  refine k_iconst 21 22 C dX1_ratioAsFloat_21 rfl (v := 1) rfl ?_
  refine k_callSNL 22 25 C [_, _, _] [] dX1_ratioAsFloat_22 rfl ct_X3_lowest mi_X3_lowest mn_X1_91 st_X3_lowest rfl rfl ⟨Nat.le_of_ble_eq_true rfl, Nat.le_of_ble_eq_true rfl⟩ (Nat.le_of_ble_eq_true rfl) (Nat.zero_le _) (Nat.zero_le _) (fun r22 V22 p22 => ?_)
  obtain ⟨rfl, rfl⟩ := And.intro p22.1.symm p22.2
  refine k_lstore_n 25 26 C [(3, _), (1, _), (0, _)] dX1_ratioAsFloat_25 rfl (by decide) rfl ?_
  refine k_lload_n 26 27 C dX1_ratioAsFloat_26 rfl 0 rfl ?_
  refine k_lconst 27 28 C dX1_ratioAsFloat_27 rfl (v := 0) rfl ?_
  refine k_lcmp_le 28 29 40 32 C dX1_ratioAsFloat_28 rfl dX1_ratioAsFloat_29 (by decide) rfl (fun h29 => ?_) (fun h29 => ?_)
  · refine k_fconst1 40 41 C dX1_ratioAsFloat_40 rfl ?_
    refine k_fret 41 C dX1_ratioAsFloat_41 rfl ?_
    exact ⟨rfl, by simp [h29]⟩
  · refine k_lload_n 32 33 C dX1_ratioAsFloat_32 rfl 1 rfl ?_
    refine k_l2f 33 34 C dX1_ratioAsFloat_33 rfl  ?_
    refine k_lload_n 34 35 C dX1_ratioAsFloat_34 rfl 0 rfl ?_
    refine k_l2f 35 36 C dX1_ratioAsFloat_35 rfl  ?_
    refine k_fdiv 36 37 C dX1_ratioAsFloat_36 rfl (hf h29) ?_
    refine k_goto 37 41 C dX1_ratioAsFloat_37 (by decide) ?_
    refine k_fret 41 C dX1_ratioAsFloat_41 rfl ?_
    exact ⟨rfl, by simp [h29]⟩

