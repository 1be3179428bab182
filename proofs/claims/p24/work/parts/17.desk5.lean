def dPa (d : Dr) (p : Int32) : Dr := (p, d.2)
def decD (num : Int32) (d : Dr) : Dr := if num < rpa d then dPa d (rpa d - 1) else d
def shf (j k : Nat) : Nat := if k < j then k else k + 1
def rmS (S : Dk) (j : Nat) (m : Nat) : Dk := (kf S, ks S, kn S - 1, fun k => if k < m then decD (nI j) (kdr S (shf j k)) else kdr S (shf j k))
def rmP (π : Nat → Nat) (j n k : Nat) : Nat := if j ≤ k ∧ k < n - 1 then π (k + 1) else if k = n - 1 then π j else π k
/-- the rows while they are moved -/
def RW (V V1 : gV) (D : Nat) (π : Nat → Nat) (j i : Nat) : Prop := V1.1 = V.1 ∧ V1.2.1 = V.2.1 ∧ (∀ b, b ≠ D + 2 → V1.2.2 b = V.2.2 b) ∧ ∀ k, k < 6 → V1.2.2 (D + 2) k = some (D + 3 + 4 * π (if j ≤ k ∧ k < i then k + 1 else k))
theorem RW.step {V V1 : gV} {D : Nat} {π : Nat → Nat} {j i : Nat} (h : RW V V1 D π j i) (hj : j ≤ i) : RW V (wR V1 (D + 2) i (some (D + 3 + 4 * π (i + 1)))) D π j (i + 1) := by
  obtain ⟨h1, h2, h3, h4⟩ := h
  refine ⟨h1, h2, fun b hb => (wR_off b hb).2.2.trans (h3 b hb), fun k hk => ?_⟩
  by_cases e : k = i
  · subst e
    rw [if_pos ⟨hj, by omega⟩]
    simp [wR, va_up]
  · have h5 := h4 k hk
    simp only [wR, va_up, if_true, e, if_false]
    rw [h5]
    by_cases c : j ≤ k ∧ k < i
    · rw [if_pos c, if_pos ⟨c.1, by omega⟩]
    · rw [if_neg c, if_neg (fun z => c ⟨z.1, by omega⟩)]
theorem rmP_lt {V : gV} {D : Nat} {S : Dk} {π : Nat → Nat} (hk : DK V D S π) {j : Nat} (hj : j < kn S) : (∀ k, k < 6 → rmP π j (kn S) k < 6) ∧ ∀ a b, a < 6 → b < 6 → rmP π j (kn S) a = rmP π j (kn S) b → a = b := by
  have hn := hk.le
  refine ⟨fun k hk6 => ?_, fun a b ha hb hab => ?_⟩
  · unfold rmP; split
    · exact hk.p _ (by omega)
    · split
      · exact hk.p _ (by omega)
      · exact hk.p _ hk6
  · have e : ∀ x, rmP π j (kn S) x = π (if j ≤ x ∧ x < kn S - 1 then x + 1 else if x = kn S - 1 then j else x) := fun x => by
      unfold rmP; split
      · rfl
      · split <;> rfl
    rw [e a, e b] at hab
    have h2 := hk.inj _ _ (by repeat' split
                              all_goals omega) (by repeat' split
                                                   all_goals omega) hab
    repeat' split at h2
    all_goals omega
theorem rmP_at (π : Nat → Nat) {j n i : Nat} (hi : i < n - 1) : rmP π j n i = π (shf j i) := by
  unfold rmP shf
  by_cases c : i < j
  · rw [if_pos c, if_neg (fun z => by omega), if_neg (by omega)]
  · rw [if_neg c, if_pos ⟨by omega, hi⟩]
theorem RW.fin {V V1 : gV} {D : Nat} {S : Dk} {π : Nat → Nat} {j : Nat} (hk : DK V D S π) (hj : j < kn S) (h : RW V V1 D π j (kn S - 1)) : DK (wI (wR V1 (D + 2) (kn S - 1) (some (D + 3 + 4 * π j))) D 11 (nI (kn S - 1))) D (rmS S j 0) (rmP π j (kn S)) := by
  obtain ⟨h1, h2, h3, h4⟩ := h
  obtain ⟨p1, p2⟩ := rmP_lt hk hj
  have hn := hk.le
  have e1 : ∀ b, b ≠ D → (wI (wR V1 (D + 2) (kn S - 1) (some (D + 3 + 4 * π j))) D 11 (nI (kn S - 1))).1 b = V.1 b := fun b hb => by
    rw [(wI_off b hb).1]; show V1.1 b = V.1 b; rw [h1]
  refine ⟨fun i a b => ?_, fun i a => by rw [e1 _ (by omega)]; exact hk.s i a, by simp [wI, upd, rmS, kn], by show kn S - 1 ≤ 6; omega, fun k hk6 => ⟨p1 k hk6, ?_⟩, p2, fun i hi => ?_⟩
  · show (if D = D then upd (V1.1 D) 11 _ else _) i = kf S i
    rw [if_pos rfl, h1]
    simp only [upd, show ¬ i = 11 by omega, if_false]
    exact hk.f i a b
  · show (if D + 2 = D + 2 then va_up (V1.2.2 (D + 2)) (kn S - 1) _ else _) k = _
    rw [if_pos rfl]
    by_cases c : k = kn S - 1
    · subst c
      rw [va_up_self]
      unfold rmP
      rw [if_neg (fun z => by omega), if_pos rfl]
    · rw [va_up_ne _ _ c, h4 k hk6]
      unfold rmP
      by_cases c2 : j ≤ k ∧ k < kn S - 1
      · rw [if_pos c2, if_pos c2]
      · rw [if_neg c2, if_neg c2, if_neg c]
  · have hi' : i < kn S - 1 := hi
    have hs : shf j i < kn S := by unfold shf; split <;> omega
    rw [rmP_at π hi']
    have hd := hk.d _ hs
    have hp := hk.p (shf j i) (by omega)
    refine ⟨?_, hk.w _ hs⟩
    show DV _ _ (if i < 0 then decD (nI j) (kdr S (shf j i)) else kdr S (shf j i))
    rw [if_neg (Nat.not_lt_zero i)]
    obtain ⟨q0, q1, q2, q3, q4, q5, q6, q7, q8, q9⟩ := hd
    have f0 := e1 (D + 3 + 4 * π (shf j i)) (by omega)
    have f3 := e1 (D + 3 + 4 * π (shf j i) + 3) (by omega)
    have fl : (wI (wR V1 (D + 2) (kn S - 1) (some (D + 3 + 4 * π j))) D 11 (nI (kn S - 1))).2.1 = V.2.1 := h2
    unfold DV
    rw [f0, f3, fl]
    exact ⟨q0, q1, q2, q3, q4, q5, q6, q7, q8, q9⟩
theorem DV.par {V : gV} {a : Nat} {d : Dr} (hd : DV V a d) (p : Int32) : DV (wI V a 0 p) a (dPa d p) := by
  obtain ⟨h0, h1, h2, h3, h4, h5, h6, h7, h8, h9⟩ := hd
  have e : ∀ k, k ≠ 0 → (wI V a 0 p).1 a k = V.1 a k := fun k hk => by simp [wI, upd, hk]
  have e3 : (wI V a 0 p).1 (a + 3) = V.1 (a + 3) := (wI_off (a + 3) (by omega)).1
  exact ⟨by simp [wI, upd, rpa, dPa], h1, h2, (e 3 (by decide)).trans h3, (e 4 (by decide)).trans h4, h5, h6, (e 7 (by decide)).trans h7, h8, fun i hi => ⟨(h9 i hi).1, (h9 i hi).2.1, by rw [e3]; exact (h9 i hi).2.2⟩⟩
theorem rmS_same {V : gV} {D : Nat} {S : Dk} {σ : Nat → Nat} {j i : Nat} (h : DK V D (rmS S j i) σ) (hc : ¬ nI j < rpa (kdr S (shf j i))) : DK V D (rmS S j (i + 1)) σ := by
  have e : rmS S j (i + 1) = rmS S j i := by
    unfold rmS
    congr 3
    funext k
    by_cases c : k = i
    · subst c
      rw [if_pos (by omega), if_neg (by omega)]
      unfold decD
      rw [if_neg hc]
    · by_cases c2 : k < i
      · rw [if_pos (by omega), if_pos c2]
      · rw [if_neg (by omega), if_neg c2]
  rw [e]; exact h
theorem rmS_dec {V : gV} {D : Nat} {S : Dk} {σ : Nat → Nat} {j i : Nat} (h : DK V D (rmS S j i) σ) (hi : i < kn S - 1) (hc : nI j < rpa (kdr S (shf j i))) : DK (wI V (D + 3 + 4 * σ i) 0 (rpa (kdr S (shf j i)) - 1)) D (rmS S j (i + 1)) σ := by
  have hd := h.d i hi
  have hw := h.w i hi
  have e0 : kdr (rmS S j i) i = kdr S (shf j i) := by show (if i < i then _ else _) = _; rw [if_neg (by omega)]
  rw [e0] at hd hw
  have hp := h.p i (by have := h.le; have : kn S - 1 ≤ 6 := this; omega)
  have h2 := h.drw hi (Off.rf.wI (k := 0) (x := rpa (kdr S (shf j i)) - 1) (Nat.le_refl _) (by omega)) (hd.par _) hw
  have e : (kf (rmS S j i), ks (rmS S j i), kn (rmS S j i), va_up (kdr (rmS S j i)) i (dPa (kdr S (shf j i)) (rpa (kdr S (shf j i)) - 1))) = rmS S j (i + 1) := by
    unfold rmS
    show (kf S, ks S, kn S - 1, _) = _
    congr 3
    funext k
    by_cases c : k = i
    · subst c
      rw [va_up_self, if_pos (by omega)]
      unfold decD
      rw [if_pos hc]
    · rw [va_up_ne _ _ c]
      show (if k < i then _ else _) = _
      by_cases c2 : k < i
      · rw [if_pos c2, if_pos (by omega)]
      · rw [if_neg c2, if_neg (by omega)]
  rw [← e]; exact h2
set_option maxHeartbeats 4000000 in
set_option maxRecDepth 100000 in
theorem ct_X0_takeAway {E : gE} {T : gT} {l : Launch} {V : gV} {j : Nat} {D : Nat} {S : Dk} {π : Nat → Nat} (hD : IsDsk T D) (hk : DK V D S π) (hj : j < kn S) : CtV E T l yX0_takeAway (gw yX0_takeAway cX0_takeAway 6 none) { frames := 1, cells := 0, slots := 0, locals := 21 } [.ref D, .int (nI j)] V (fun (V' : gV) => DK V' D (rmS S j (kn S - 1)) (rmP π j (kn S)) ∧ Off V V' D (D + 27)) := by
  refine ctV_of (L := [(0, .ref D), (1, .int (nI j))]) (by decide) rfl (Nat.le_of_ble_eq_true rfl) rfl (fun p e s m args below meth c C => ?_)
  have zn := hk.le
  have loop93 : ∀ (f : Nat) (V1 : gV) (i : Nat), kn S - 1 - i = f → (i ≤ kn S - 1) → (DK V1 D (rmS S j i) (rmP π j (kn S))) → (Off V V1 D (D + 27)) → KW E T V1 p l e { frames := 1, cells := 0, slots := 0, locals := 21 } s m args below meth c 6 0 0 (MQ below (va_Qv (fun (V' : gV) => DK V' D (rmS S j (kn S - 1)) (rmP π j (kn S)) ∧ Off V V' D (D + 27)) (RepS E T) (gA E)) args s 0 0 (gA E)) 93 [(4, .int (nI i)), (3, .int (nI (kn S - 1))), (2, .ref (D + 3 + 4 * π j)), (0, .ref D), (1, .int (nI j))] [] := by
    intro f
    induction f using Nat.strongRecOn with
    | _ f ih =>
    intro V1 i hf hi g3 g4
    refine k_iload 93 95 C dX0_takeAway_93 rfl 0 rfl ?_
    refine k_aload_n 95 96 C dX0_takeAway_95 rfl 3 rfl ?_
    refine k_get 96 99 C dX0_takeAway_96 rfl ci_X0 11 fl_X0_52 (IsDsk.o ‹_›) (by decide) rfl ?_
    refine k_rwI (y := nI (kn S - 1)) g3.n ?_
    refine k_icmp_ge 99 141 102 C dX0_takeAway_99 (by decide) rfl (fun h99 => ?_) (fun h99 => ?_)
    · rw [n6 (by omega) (by omega)] at h99
      obtain rfl : i = kn S - 1 := by omega
      refine k_vret 141 C dX0_takeAway_141 rfl ?_
      exact ⟨g3, g4⟩
    · rw [n6 (by omega) (by omega)] at h99
      have zl : i < kn S - 1 := by omega
      have zq := hD.d _ (g3.p i (by omega))
      have zv := g3.d i zl
      rw [show kdr (rmS S j i) i = kdr S (shf j i) from if_neg (by omega)] at zv
      refine k_aload_n 102 103 C dX0_takeAway_102 rfl 3 rfl ?_
      refine k_iload 103 105 C dX0_takeAway_103 rfl 0 rfl ?_
      refine k_callVQ 105 108 C [_] [] dX0_takeAway_105 rfl (ct_X0_find hD g3) mi_X0_find ml_X0_60 im_X0_find se_X0_find ci_X0 (IsDsk.o ‹_›) rfl rfl ⟨Nat.le_of_ble_eq_true rfl, Nat.le_of_ble_eq_true rfl⟩ (Nat.le_of_ble_eq_true rfl) (Nat.zero_le _) (Nat.zero_le _) (fun r105 V105 p105 => ?_)
      obtain ⟨rfl, rfl⟩ := And.intro p105.1.symm p105.2
      refine k_rwQ (sFind_at g3.le zl) ?_
      refine k_astore 108 110 C [(5, _), (4, _), (3, _), (2, _), (0, _), (1, _)] dX0_takeAway_108 rfl (by decide) rfl ?_
      refine k_aload 110 112 C dX0_takeAway_110 rfl 0 rfl ?_
      refine k_ifnullO 112 115 C dX0_takeAway_112 rfl ?_
      refine k_aload 115 117 C dX0_takeAway_115 rfl 0 rfl ?_
      refine k_getN 117 120 C dX0_takeAway_117 rfl ci_X1 0 fn_X0_76 (IsDrw.o zq) (by decide) rfl ?_
      refine k_rwI (zv.f0) ?_
      refine k_iload_n 120 121 C dX0_takeAway_120 rfl 5 rfl ?_
      refine k_icmp_le 121 135 124 C dX0_takeAway_121 (by decide) rfl (fun h121 => ?_) (fun h121 => ?_)
      · refine k_iinc 135 138 C [(4, _), (5, _), (3, _), (2, _), (0, _), (1, _)] (nI (i + 1)) dX0_takeAway_135 rfl 1 rfl (nI_1 i) (by decide) rfl ?_
        refine k_goto 138 93 C dX0_takeAway_138 (by decide) ?_
        refine k_perm [0, 2, 3, 4, 5] (L' := [(4, _), (3, _), (2, _), (0, _), (1, _)]) rfl ?_
        first
          | exact ih (kn S - 1 - (i + 1)) (by omega) _ (i + 1) rfl (by omega) (rmS_same g3 (i32_not_lt.mpr h121)) g4
          | exact ih (kn S - 1 - (i + 1)) (by omega) _ (i + 1) rfl (by omega) (rmS_dec g3 zl (i32_not_le.mp h121)) (g4.wI (by omega) (by have := g3.p i (by omega); omega))
      · refine k_aload 124 126 C dX0_takeAway_124 rfl 0 rfl ?_
        refine k_dup 126 127 C dX0_takeAway_126 rfl rfl ?_
        refine k_getN 127 130 C dX0_takeAway_127 rfl ci_X1 0 fn_X0_76 (IsDrw.o zq) (by decide) rfl ?_
        refine k_rwI (zv.f0) ?_
        refine k_iconst 130 131 C dX0_takeAway_130 rfl (v := 1) rfl ?_
        refine k_isub 131 132 C dX0_takeAway_131 rfl  ?_
        refine k_putN 132 135 C dX0_takeAway_132 rfl ci_X1 0 fn_X0_76 (IsDrw.o zq) (by decide) rfl rfl rfl wI_off (ps_1_0 _ _ _ _) ?_
        refine k_iinc 135 138 C [(4, _), (5, _), (3, _), (2, _), (0, _), (1, _)] (nI (i + 1)) dX0_takeAway_135 rfl 1 rfl (nI_1 i) (by decide) rfl ?_
        refine k_goto 138 93 C dX0_takeAway_138 (by decide) ?_
        refine k_perm [0, 2, 3, 4, 5] (L' := [(4, _), (3, _), (2, _), (0, _), (1, _)]) rfl ?_
        first
          | exact ih (kn S - 1 - (i + 1)) (by omega) _ (i + 1) rfl (by omega) (rmS_same g3 (i32_not_lt.mpr h121)) g4
          | exact ih (kn S - 1 - (i + 1)) (by omega) _ (i + 1) rfl (by omega) (rmS_dec g3 zl (i32_not_le.mp h121)) (g4.wI (by omega) (by have := g3.p i (by omega); omega))
  have loop8 : ∀ (f : Nat) (V1 : gV) (i : Nat), kn S - 1 - i = f → (i ≤ kn S - 1) → (j ≤ i) → (RW V V1 D π j i) → KW E T V1 p l e { frames := 1, cells := 0, slots := 0, locals := 21 } s m args below meth c 6 0 0 (MQ below (va_Qv (fun (V' : gV) => DK V' D (rmS S j (kn S - 1)) (rmP π j (kn S)) ∧ Off V V' D (D + 27)) (RepS E T) (gA E)) args s 0 0 (gA E)) 8 [(3, .int (nI i)), (2, .ref (D + 3 + 4 * π j)), (0, .ref D), (1, .int (nI j))] [] := by
    intro f
    induction f using Nat.strongRecOn with
    | _ f ih =>
    intro V1 i hf hi hji g1
    refine k_iload_n 8 9 C dX0_takeAway_8 rfl 0 rfl ?_
    refine k_if_lt 9 53 12 C dX0_takeAway_9 (by decide) rfl (fun h9 => ?_) (fun h9 => ?_)
    · exact absurd h9 (nI_pos (by omega))
    · refine k_iload_n 12 13 C dX0_takeAway_12 rfl 0 rfl ?_
      refine k_iconst 13 14 C dX0_takeAway_13 rfl (v := 1) rfl ?_
      refine k_iadd 14 15 C dX0_takeAway_14 rfl  ?_
      refine k_rwI (nI_1 i) ?_
      refine k_aload_n 15 16 C dX0_takeAway_15 rfl 2 rfl ?_
      refine k_get 16 19 C dX0_takeAway_16 rfl ci_X0 11 fl_X0_52 (IsDsk.o ‹_›) (by decide) rfl ?_
      refine k_rwI (y := nI (kn S)) (by rw [g1.1]; exact hk.n) ?_
      refine k_icmp_ge 19 53 22 C dX0_takeAway_19 (by decide) rfl (fun h19 => ?_) (fun h19 => ?_)
      · rw [n6 (by omega) (by omega)] at h19
        obtain rfl : i = kn S - 1 := by omega
        refine k_aload_n 53 54 C dX0_takeAway_53 rfl 2 rfl ?_
        refine k_get 54 57 C dX0_takeAway_54 rfl ci_X0 11 fl_X0_52 (IsDsk.o ‹_›) (by decide) rfl ?_
        refine k_rwI (y := nI (kn S)) (by rw [g1.1]; exact hk.n) ?_
        refine k_iconst 57 58 C dX0_takeAway_57 rfl (v := 1) rfl ?_
        refine k_isub 58 59 C dX0_takeAway_58 rfl  ?_
        refine k_rwI (y := nI (kn S - 1)) (pk_sub (a := kn S) (b := 1) (by omega)) ?_
        refine k_istore_n 59 60 C [(3, _), (2, _), (0, _), (1, _)] dX0_takeAway_59 rfl (by decide) rfl ?_
        refine k_aload_n 60 61 C dX0_takeAway_60 rfl 1 rfl ?_
        refine k_ifnullO 61 64 C dX0_takeAway_61 rfl ?_
        refine k_iload_n 64 65 C dX0_takeAway_64 rfl 0 rfl ?_
        refine k_if_lt 65 77 68 C dX0_takeAway_65 (by decide) rfl (fun h65 => ?_) (fun h65 => ?_)
        · exact absurd h65 (nI_pos (by omega))
        · refine k_iload_n 68 69 C dX0_takeAway_68 rfl 0 rfl ?_
          refine k_aload_n 69 70 C dX0_takeAway_69 rfl 2 rfl ?_
          refine k_getF 70 73 C dX0_takeAway_70 rfl ci_X0 10 fl_X0_48 (IsDsk.o ‹_›) (by decide) (IsDsk.f10 ‹_›) rfl ?_
          refine k_alen 73 74 C dX0_takeAway_73 rfl (IsDsk.a10 ‹_›) (by decide) (v := 6) rfl ?_
          refine k_icmp_lt 74 78 77 C dX0_takeAway_74 (by decide) rfl (fun h74 => ?_) (fun h74 => ?_)
          · refine k_aload_n 78 79 C dX0_takeAway_78 rfl 2 rfl ?_
            refine k_getF 79 82 C dX0_takeAway_79 rfl ci_X0 10 fl_X0_48 (IsDsk.o ‹_›) (by decide) (IsDsk.f10 ‹_›) rfl ?_
            refine k_iload_n 82 83 C dX0_takeAway_82 rfl 0 rfl ?_
            refine k_aload_n 83 84 C dX0_takeAway_83 rfl 1 rfl ?_
            refine k_aast2 84 85 C dX0_takeAway_84 rfl (IsDsk.a10 hD) (IsDrw.o (hD.d _ (hk.p j (by omega)))) (vp_in_nI (show kn S - 1 < 6 by omega) (by decide)) ?_
            rw [nI_clamp (show kn S - 1 < 2 ^ 31 by omega)]
            refine k_aload_n 85 86 C dX0_takeAway_85 rfl 2 rfl ?_
            refine k_iload_n 86 87 C dX0_takeAway_86 rfl 0 rfl ?_
            refine k_put 87 90 C dX0_takeAway_87 rfl ci_X0 11 fl_X0_52 (IsDsk.o ‹_›) (by decide) rfl rfl rfl wI_off (ps_0_11 _ _ _ _) ?_
            have zf := g1.fin hk hj
            have zo : Off V (wI (wR V1 (D + 2) (kn S - 1) (some (D + 3 + 4 * π j))) D 11 (nI (kn S - 1))) D (D + 27) := (Off.wR (fun b hb => ⟨by rw [g1.1], by rw [g1.2.1], g1.2.2.1 b (by omega)⟩) (by omega) (by omega)).wI (Nat.le_refl D) (by omega)
            refine k_iconst 90 91 C dX0_takeAway_90 rfl (v := 0) rfl ?_
            refine k_istore 91 93 C [(4, _), (3, _), (2, _), (0, _), (1, _)] dX0_takeAway_91 rfl (by decide) rfl ?_
            exact loop93 _ _ 0 rfl (Nat.zero_le _) zf zo
          · exact absurd (show nI (kn S - 1) < nI 6 from nI_lt (by omega) (by decide)) h74
      · rw [n6 (by omega) (by omega)] at h19
        have zl : i + 1 < kn S := by omega
        refine k_iload_n 22 23 C dX0_takeAway_22 rfl 0 rfl ?_
        refine k_iconst 23 24 C dX0_takeAway_23 rfl (v := 1) rfl ?_
        refine k_iadd 24 25 C dX0_takeAway_24 rfl  ?_
        refine k_rwI (nI_1 i) ?_
        refine k_aload_n 25 26 C dX0_takeAway_25 rfl 2 rfl ?_
        refine k_getF 26 29 C dX0_takeAway_26 rfl ci_X0 10 fl_X0_48 (IsDsk.o ‹_›) (by decide) (IsDsk.f10 ‹_›) rfl ?_
        refine k_alen 29 30 C dX0_takeAway_29 rfl (IsDsk.a10 ‹_›) (by decide) (v := 6) rfl ?_
        refine k_icmp_ge 30 53 33 C dX0_takeAway_30 (by decide) rfl (fun h30 => ?_) (fun h30 => ?_)
        · exact absurd (show nI 6 ≤ nI (i + 1) from h30) (by rw [n6 (by omega) (by omega)]; omega)
        · refine k_aload_n 33 34 C dX0_takeAway_33 rfl 2 rfl ?_
          refine k_getF 34 37 C dX0_takeAway_34 rfl ci_X0 10 fl_X0_48 (IsDsk.o ‹_›) (by decide) (IsDsk.f10 ‹_›) rfl ?_
          refine k_iload_n 37 38 C dX0_takeAway_37 rfl 0 rfl ?_
          refine k_aload_n 38 39 C dX0_takeAway_38 rfl 2 rfl ?_
          refine k_getF 39 42 C dX0_takeAway_39 rfl ci_X0 10 fl_X0_48 (IsDsk.o ‹_›) (by decide) (IsDsk.f10 ‹_›) rfl ?_
          refine k_iload_n 42 43 C dX0_takeAway_42 rfl 0 rfl ?_
          refine k_iconst 43 44 C dX0_takeAway_43 rfl (v := 1) rfl ?_
          refine k_iadd 44 45 C dX0_takeAway_44 rfl  ?_
          refine k_rwI (nI_1 i) ?_
          refine k_aald2 45 46 C dX0_takeAway_45 rfl (IsDsk.a10 ‹_›) (vp_in_nI (show i + 1 < 6 by omega) (by decide)) ?_
          rw [nI_clamp (show i + 1 < 2 ^ 31 by omega)]
          refine k_rwQ ((g1.2.2.2 (i + 1) (by omega)).trans (by rw [if_neg (fun z => by omega)])) ?_
          refine k_aast2 46 47 C dX0_takeAway_46 rfl (IsDsk.a10 hD) (IsDrw.o (hD.d _ (hk.p (i + 1) (by omega)))) (vp_in_nI (show i < 6 by omega) (by decide)) ?_
          rw [nI_clamp (show i < 2 ^ 31 by omega)]
          refine k_iinc 47 50 C [(3, _), (2, _), (0, _), (1, _)] (nI (i + 1)) dX0_takeAway_47 rfl 0 rfl (nI_1 i) (by decide) rfl ?_
          refine k_goto 50 8 C dX0_takeAway_50 (by decide) ?_
          exact ih (kn S - 1 - (i + 1)) (by omega) _ (i + 1) rfl (by omega) (by omega) (g1.step hji)
  refine k_aload_n 0 1 C dX0_takeAway_0 rfl 0 rfl ?_
  refine k_iload_n 1 2 C dX0_takeAway_1 rfl 1 rfl ?_
  refine k_callVQ 2 5 C [_] [] dX0_takeAway_2 rfl (ct_X0_find hD hk) mi_X0_find ml_X0_60 im_X0_find se_X0_find ci_X0 (IsDsk.o ‹_›) rfl rfl ⟨Nat.le_of_ble_eq_true rfl, Nat.le_of_ble_eq_true rfl⟩ (Nat.le_of_ble_eq_true rfl) (Nat.zero_le _) (Nat.zero_le _) (fun r2 V2 p2 => ?_)
  obtain ⟨rfl, rfl⟩ := And.intro p2.1.symm p2.2
  refine k_rwQ (sFind_at hk.le hj) ?_
  refine k_astore_n 5 6 C [(2, _), (0, _), (1, _)] dX0_takeAway_5 rfl (by decide) rfl ?_
  refine k_iload_n 6 7 C dX0_takeAway_6 rfl 2 rfl ?_
  refine k_istore_n 7 8 C [(3, _), (2, _), (0, _), (1, _)] dX0_takeAway_7 rfl (by decide) rfl ?_
  exact loop8 _ V j rfl (by omega) (Nat.le_refl j) ⟨rfl, rfl, fun _ _ => rfl, fun k hk6 => by rw [if_neg (fun z => by omega)]; exact hk.r k hk6⟩

