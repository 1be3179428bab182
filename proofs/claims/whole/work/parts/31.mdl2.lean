/-- what the walks need of a page: how many drawings, how many points each has -/
def PWf (f : Nat → Int64) (n : Nat) (np : Nat → Nat) : Prop := f 14 = lN n ∧ n ≤ 6 ∧ ∀ d, d < n → f (hdC d 0) = lN (np d) ∧ np d ≤ 20
theorem prd_lt {n : Nat} (hn : n ≤ 100) (i : Int32) : nI n - 1 < i ↔ nI n ≤ i := by
  rw [Int32.lt_iff_toInt_lt, Int32.le_iff_toInt_le, nI_toInt (show n < 2 ^ 31 by omega)]
  have e : (nI n - 1).toInt = (n : Int) - 1 := by
    have := pk_sub_toInt (a := n) (b := 1) (by omega) (by decide)
    exact this
  rw [e]; omega
theorem hd_lt {d k : Nat} (hd : d ≤ 5) (hk : k < 150) : hdC d k < 915 := by unfold hdC; omega
theorem ce_lt {d k j : Nat} (hd : d ≤ 5) (hk : k < 20) (hj : j < 7) : ceC d k + j < 915 := by unfold ceC; omega
def pcp (f : Nat → Int64) (num : Int32) : Nat → Bool
  | 0 => false
  | j + 1 => pcp f num j || decide ((f (hdC j 1)).toInt32 = num)
def onP (f : Nat → Int64) (d k : Nat) : Bool := (decide (¬ f (ceC d k) < 0) && decide (¬ f 6 * f (ceC d k + 1) < f (ceC d k))) && (decide (¬ f (ceC d k + 2) < 0) && decide (¬ f 7 * f (ceC d k + 3) < f (ceC d k + 2)))
def lqN (f : Nat → Int64) (d k j : Nat) : Int64 := rdN (plN (f (ceC d k + j)) (f (ceC d k + (j + 1))) (-1) (f (ceC d (k - 1) + j)) (f (ceC d (k - 1) + (j + 1)))) (plD (f (ceC d k + (j + 1))) (f (ceC d (k - 1) + (j + 1))))
def lqD (f : Nat → Int64) (d k j : Nat) : Int64 := rdD (plN (f (ceC d k + j)) (f (ceC d k + (j + 1))) (-1) (f (ceC d (k - 1) + j)) (f (ceC d (k - 1) + (j + 1)))) (plD (f (ceC d k + (j + 1))) (f (ceC d (k - 1) + (j + 1))))
def leN (f : Nat → Int64) (d k : Nat) : Int64 := rdN (plN (sz (lqN f d k 0)) (lqD f d k 0) 1 (sz (lqN f d k 2)) (lqD f d k 2)) (plD (lqD f d k 0) (lqD f d k 2))
def leD (f : Nat → Int64) (d k : Nat) : Int64 := rdD (plN (sz (lqN f d k 0)) (lqD f d k 0) 1 (sz (lqN f d k 2)) (lqD f d k 2)) (plD (lqD f d k 0) (lqD f d k 2))
set_option maxHeartbeats 4000000 in
set_option maxRecDepth 100000 in
theorem ct_X4_isBlunt {E : gE} {T : gT} {l : Launch} {V : gV} {M : Nat} {f : Nat → Int64} (hM : IsMdl T M) (hf : PQ V M f) (hs : ¬ f 8 = 0) : CtI E T l yX4_isBlunt (gw yX4_isBlunt cX4_isBlunt 1 (some .boolean)) { frames := 0, cells := 0, slots := 0, locals := 0 } [.ref M] V (fun (r : Int32) (V' : gV) => V' = V ∧ r = bi (¬ 1 + f 9 / f 8 ≤ 9)) := by
  refine ctI_of (L := [(0, .ref M)]) (by decide) rfl (Nat.le_of_ble_eq_true rfl) rfl (fun p e s m args below meth c C => ?_)
  refine k_lconst 0 1 C dX4_isBlunt_0 rfl (v := 1) rfl ?_
  refine k_aload_n 1 2 C dX4_isBlunt_1 rfl 0 rfl ?_
  refine k_getF 2 5 C dX4_isBlunt_2 rfl ci_X4 0 fl_X4_7 (IsMdl.o ‹_›) (by decide) (IsMdl.f0 ‹_›) rfl ?_
  refine k_bipush 5 7 C dX4_isBlunt_5 rfl (v := 9) rfl ?_
  refine k_lald 7 8 C dX4_isBlunt_7 rfl (IsMdl.a0 ‹_›) (vp_in_nI (n := 9) (by decide) (by decide)) ?_
  refine k_rwL (y := f 9) (hf 9 (by decide)) ?_
  refine k_aload_n 8 9 C dX4_isBlunt_8 rfl 0 rfl ?_
  refine k_getF 9 12 C dX4_isBlunt_9 rfl ci_X4 0 fl_X4_7 (IsMdl.o ‹_›) (by decide) (IsMdl.f0 ‹_›) rfl ?_
  refine k_bipush 12 14 C dX4_isBlunt_12 rfl (v := 8) rfl ?_
  refine k_lald 14 15 C dX4_isBlunt_14 rfl (IsMdl.a0 ‹_›) (vp_in_nI (n := 8) (by decide) (by decide)) ?_
  refine k_rwL (y := f 8) (hf 8 (by decide)) ?_
  refine k_ldiv 15 16 C dX4_isBlunt_15 rfl hs ?_
  refine k_ladd 16 17 C dX4_isBlunt_16 rfl  ?_
  refine k_ldc2 17 20 C dX4_isBlunt_17 rfl kl_X4_73 ?_
  refine k_lcmp_le 20 21 28 24 C dX4_isBlunt_20 rfl dX4_isBlunt_21 (by decide) rfl (fun h21 => ?_) (fun h21 => ?_)
  · refine k_iconst 28 29 C dX4_isBlunt_28 rfl (v := 0) rfl ?_
    refine k_zret 29 C dX4_isBlunt_29 rfl (by first | exact Or.inl rfl | exact Or.inr rfl | exact bi_01) ?_
    exact ⟨rfl, by simp [bi, h21]⟩
  · refine k_iconst 24 25 C dX4_isBlunt_24 rfl (v := 1) rfl ?_
    refine k_goto 25 29 C dX4_isBlunt_25 (by decide) ?_
    refine k_zret 29 C dX4_isBlunt_29 rfl (by first | exact Or.inl rfl | exact Or.inr rfl | exact bi_01) ?_
    exact ⟨rfl, by simp [bi, h21]⟩
set_option maxHeartbeats 4000000 in
set_option maxRecDepth 100000 in
theorem ct_X4_isDrawing {E : gE} {T : gT} {l : Launch} {V : gV} {i : Int32} {M n : Nat} {f : Nat → Int64} {np : Nat → Nat} (hM : IsMdl T M) (hf : PQ V M f) (hw : PWf f n np) : CtI E T l yX4_isDrawing (gw yX4_isDrawing cX4_isDrawing 2 (some .boolean)) { frames := 1, cells := 0, slots := 0, locals := 22 } [.ref M, .int i] V (fun (r : Int32) (V' : gV) => V' = V ∧ r = bi (¬ i < 0 ∧ ¬ nI n ≤ i)) := by
  refine ctI_of (L := [(0, .ref M), (1, .int i)]) (by decide) rfl (Nat.le_of_ble_eq_true rfl) rfl (fun p e s m args below meth c C => ?_)
  refine k_iload_n 0 1 C dX4_isDrawing_0 rfl 1 rfl ?_
  refine k_iconst 1 2 C dX4_isDrawing_1 rfl (v := 0) rfl ?_
  refine k_aload_n 2 3 C dX4_isDrawing_2 rfl 0 rfl ?_
  refine k_bipush 3 5 C dX4_isDrawing_3 rfl (v := 14) rfl ?_
  refine k_callVI 5 8 C [_] [_, _] dX4_isDrawing_5 rfl (ct_X4_of (k := 14) (by decide) hM hf) mi_X4_of ml_X4_65 im_X4_of se_X4_of ci_X4 (IsMdl.o ‹_›) rfl rfl ⟨Nat.le_of_ble_eq_true rfl, Nat.le_of_ble_eq_true rfl⟩ (Nat.le_of_ble_eq_true rfl) (Nat.zero_le _) (Nat.zero_le _) (fun r5 V5 p5 => ?_)
  obtain ⟨rfl, rfl⟩ := And.intro p5.1.symm p5.2
  refine k_rwI (y := nI n) (by rw [hw.1]; exact lN_i n) ?_
  refine k_iconst 8 9 C dX4_isDrawing_8 rfl (v := 1) rfl ?_
  refine k_isub 9 10 C dX4_isDrawing_9 rfl  ?_
  refine k_callSI 10 13 C [_, _, _] [] dX4_isDrawing_10 rfl ct_X4_in mi_X4_in ml_X4_57 st_X4_in rfl rfl ⟨Nat.le_of_ble_eq_true rfl, Nat.le_of_ble_eq_true rfl⟩ (Nat.le_of_ble_eq_true rfl) (Nat.zero_le _) (Nat.zero_le _) (fun r10 V10 p10 => ?_)
  obtain ⟨rfl, rfl⟩ := And.intro p10.1.symm p10.2
  refine k_zret 13 C dX4_isDrawing_13 rfl (by first | exact Or.inl rfl | exact Or.inr rfl | exact bi_01) ?_
  exact ⟨rfl, bi_congr ⟨fun zz => ⟨zz.1, fun z1 => zz.2 ((prd_lt (by have := hw.2.1; omega) i).mpr z1)⟩, fun zz => ⟨zz.1, fun z1 => zz.2 ((prd_lt (by have := hw.2.1; omega) i).mp z1)⟩⟩⟩
set_option maxHeartbeats 4000000 in
set_option maxRecDepth 100000 in
theorem ct_X4_points {E : gE} {T : gT} {l : Launch} {V : gV} {d M : Nat} {f : Nat → Int64} (hd : d ≤ 5) (hM : IsMdl T M) (hf : PQ V M f) : CtI E T l yX4_points (gw yX4_points cX4_points 2 (some .int)) { frames := 1, cells := 0, slots := 0, locals := 21 } [.ref M, .int (nI d)] V (fun (r : Int32) (V' : gV) => V' = V ∧ r = (f (hdC d 0)).toInt32) := by
  refine ctI_of (L := [(0, .ref M), (1, .int (nI d))]) (by decide) rfl (Nat.le_of_ble_eq_true rfl) rfl (fun p e s m args below meth c C => ?_)
  refine k_aload_n 0 1 C dX4_points_0 rfl 0 rfl ?_
  refine k_iload_n 1 2 C dX4_points_1 rfl 1 rfl ?_
  refine k_iconst 2 3 C dX4_points_2 rfl (v := 0) rfl ?_
  refine k_callSI 3 6 C [_, _] [_] dX4_points_3 rfl ct_X4_head mi_X4_head ml_X4_85 st_X4_head rfl rfl ⟨Nat.le_of_ble_eq_true rfl, Nat.le_of_ble_eq_true rfl⟩ (Nat.le_of_ble_eq_true rfl) (Nat.zero_le _) (Nat.zero_le _) (fun r3 V3 p3 => ?_)
  obtain ⟨rfl, rfl⟩ := And.intro p3.1.symm p3.2
  refine k_callVI 6 9 C [_] [] dX4_points_6 rfl (ct_X4_of (hd_lt hd (by decide)) hM hf) mi_X4_of ml_X4_65 im_X4_of se_X4_of ci_X4 (IsMdl.o ‹_›) rfl rfl ⟨Nat.le_of_ble_eq_true rfl, Nat.le_of_ble_eq_true rfl⟩ (Nat.le_of_ble_eq_true rfl) (Nat.zero_le _) (Nat.zero_le _) (fun r6 V6 p6 => ?_)
  obtain ⟨rfl, rfl⟩ := And.intro p6.1.symm p6.2
  refine k_iret 9 C dX4_points_9 rfl ?_
  exact ⟨rfl, rfl⟩
set_option maxHeartbeats 4000000 in
set_option maxRecDepth 100000 in
theorem ct_X4_isPoint {E : gE} {T : gT} {l : Launch} {V : gV} {i x : Int32} {M n : Nat} {f : Nat → Int64} {np : Nat → Nat} (hM : IsMdl T M) (hf : PQ V M f) (hw : PWf f n np) : CtI E T l yX4_isPoint (gw yX4_isPoint cX4_isPoint 3 (some .boolean)) { frames := 2, cells := 0, slots := 0, locals := 43 } [.ref M, .int i, .int x] V (fun (r : Int32) (V' : gV) => V' = V ∧ r = bi ((¬ i < 0 ∧ ¬ nI n ≤ i) ∧ ¬ x < 0 ∧ ¬ nI (np i.toNatClampNeg) ≤ x)) := by
  refine ctI_of (L := [(0, .ref M), (1, .int i), (2, .int x)]) (by decide) rfl (Nat.le_of_ble_eq_true rfl) rfl (fun p e s m args below meth c C => ?_)
  have z6 := hw.2.1
  refine k_aload_n 0 1 C dX4_isPoint_0 rfl 0 rfl ?_
  refine k_iload_n 1 2 C dX4_isPoint_1 rfl 1 rfl ?_
  refine k_callVI 2 5 C [_] [] dX4_isPoint_2 rfl (ct_X4_isDrawing hM hf hw) mi_X4_isDrawing ml_X4_89 im_X4_isDrawing se_X4_isDrawing ci_X4 (IsMdl.o ‹_›) rfl rfl ⟨Nat.le_of_ble_eq_true rfl, Nat.le_of_ble_eq_true rfl⟩ (Nat.le_of_ble_eq_true rfl) (Nat.zero_le _) (Nat.zero_le _) (fun r2 V2 p2 => ?_)
  obtain ⟨rfl, rfl⟩ := And.intro p2.1.symm p2.2
  refine k_ifb_eq 5 27 8 C dX4_isPoint_5 (by decide) rfl (fun h5 => ?_) (fun h5 => ?_)
  · refine k_iconst 27 28 C dX4_isPoint_27 rfl (v := 0) rfl ?_
    refine k_zret 28 C dX4_isPoint_28 rfl (by first | exact Or.inl rfl | exact Or.inr rfl | exact bi_01) ?_
    first
      | exact ⟨rfl, (bi_f (fun zz => h5 zz.1)).symm⟩
      | exact ⟨rfl, by rw [zc]; exact (bi_f (fun zz => zx zz.2)).symm⟩
      | exact ⟨rfl, by rw [zc]; exact (bi_t ⟨h5, zx⟩).symm⟩
  · obtain ⟨d, zd, rfl⟩ := nI_of h5.1
    have zdn : d < n := by
      have z1 := h5.2
      rw [nI_leI (by omega) zd] at z1; omega
    have zc : (nI d).toNatClampNeg = d := nI_clamp zd
    have z20 := (hw.2.2 d zdn).2
    refine k_iload_n 8 9 C dX4_isPoint_8 rfl 2 rfl ?_
    refine k_iconst 9 10 C dX4_isPoint_9 rfl (v := 0) rfl ?_
    refine k_aload_n 10 11 C dX4_isPoint_10 rfl 0 rfl ?_
    refine k_iload_n 11 12 C dX4_isPoint_11 rfl 1 rfl ?_
    refine k_callVI 12 15 C [_] [_, _] dX4_isPoint_12 rfl (ct_X4_points (show d ≤ 5 by omega) hM hf) mi_X4_points ml_X4_93 im_X4_points se_X4_points ci_X4 (IsMdl.o ‹_›) rfl rfl ⟨Nat.le_of_ble_eq_true rfl, Nat.le_of_ble_eq_true rfl⟩ (Nat.le_of_ble_eq_true rfl) (Nat.zero_le _) (Nat.zero_le _) (fun r12 V12 p12 => ?_)
    obtain ⟨rfl, rfl⟩ := And.intro p12.1.symm p12.2
    refine k_rwI (y := nI (np d)) (by rw [(hw.2.2 d (by omega)).1]; exact lN_i _) ?_
    refine k_iconst 15 16 C dX4_isPoint_15 rfl (v := 1) rfl ?_
    refine k_isub 16 17 C dX4_isPoint_16 rfl  ?_
    refine k_callSI 17 20 C [_, _, _] [] dX4_isPoint_17 rfl ct_X4_in mi_X4_in ml_X4_57 st_X4_in rfl rfl ⟨Nat.le_of_ble_eq_true rfl, Nat.le_of_ble_eq_true rfl⟩ (Nat.le_of_ble_eq_true rfl) (Nat.zero_le _) (Nat.zero_le _) (fun r17 V17 p17 => ?_)
    obtain ⟨rfl, rfl⟩ := And.intro p17.1.symm p17.2
    refine k_ifb_eq 20 27 23 C dX4_isPoint_20 (by decide) rfl (fun h20 => ?_) (fun h20 => ?_)
    · have zx : ¬ (¬ x < 0 ∧ ¬ nI (np d) ≤ x) := fun zz => h20 ⟨zz.1, fun z1 => zz.2 ((prd_lt (by omega) x).mp z1)⟩
      refine k_iconst 27 28 C dX4_isPoint_27 rfl (v := 0) rfl ?_
      refine k_zret 28 C dX4_isPoint_28 rfl (by first | exact Or.inl rfl | exact Or.inr rfl | exact bi_01) ?_
      first
        | exact ⟨rfl, (bi_f (fun zz => h5 zz.1)).symm⟩
        | exact ⟨rfl, by rw [zc]; exact (bi_f (fun zz => zx zz.2)).symm⟩
        | exact ⟨rfl, by rw [zc]; exact (bi_t ⟨h5, zx⟩).symm⟩
    · have zx : ¬ x < 0 ∧ ¬ nI (np d) ≤ x := ⟨h20.1, fun z1 => h20.2 ((prd_lt (by omega) x).mpr z1)⟩
      refine k_iconst 23 24 C dX4_isPoint_23 rfl (v := 1) rfl ?_
      refine k_goto 24 28 C dX4_isPoint_24 (by decide) ?_
      refine k_zret 28 C dX4_isPoint_28 rfl (by first | exact Or.inl rfl | exact Or.inr rfl | exact bi_01) ?_
      first
        | exact ⟨rfl, (bi_f (fun zz => h5 zz.1)).symm⟩
        | exact ⟨rfl, by rw [zc]; exact (bi_f (fun zz => zx zz.2)).symm⟩
        | exact ⟨rfl, by rw [zc]; exact (bi_t ⟨h5, zx⟩).symm⟩
set_option maxHeartbeats 4000000 in
set_option maxRecDepth 100000 in
theorem ct_X4_isCopied {E : gE} {T : gT} {l : Launch} {V : gV} {num : Int32} {M n : Nat} {f : Nat → Int64} {np : Nat → Nat} (hM : IsMdl T M) (hf : PQ V M f) (hw : PWf f n np) : CtI E T l yX4_isCopied (gw yX4_isCopied cX4_isCopied 4 (some .boolean)) { frames := 1, cells := 0, slots := 0, locals := 21 } [.ref M, .int num] V (fun (r : Int32) (V' : gV) => V' = V ∧ r = bi (pcp f num n = true)) := by
  refine ctI_of (L := [(0, .ref M), (1, .int num)]) (by decide) rfl (Nat.le_of_ble_eq_true rfl) rfl (fun p e s m args below meth c C => ?_)
  have z6 := hw.2.1
  have loop4 : ∀ (zf : Nat) (j : Nat) (b : Bool), n - j = zf → (j ≤ n) → (pcp f num j = b) → KW E T V p l e { frames := 1, cells := 0, slots := 0, locals := 21 } s m args below meth c 4 0 0 (MQ below (va_Qi (fun (r : Int32) (V' : gV) => V' = V ∧ r = bi (pcp f num n = true)) (RepS E T) (gA E)) args s 0 0 (gA E)) 4 [(3, .int (nI j)), (2, .int (bi (b = true))), (0, .ref M), (1, .int num)] [] := by
    intro zf
    induction zf using Nat.strongRecOn with
    | _ zf ih =>
    intro j b zhf hj hb
    refine k_iload_n 4 5 C dX4_isCopied_4 rfl 0 rfl ?_
    refine k_aload_n 5 6 C dX4_isCopied_5 rfl 2 rfl ?_
    refine k_bipush 6 8 C dX4_isCopied_6 rfl (v := 14) rfl ?_
    refine k_callVI 8 11 C [_] [_] dX4_isCopied_8 rfl (ct_X4_of (k := 14) (by decide) hM hf) mi_X4_of ml_X4_65 im_X4_of se_X4_of ci_X4 (IsMdl.o ‹_›) rfl rfl ⟨Nat.le_of_ble_eq_true rfl, Nat.le_of_ble_eq_true rfl⟩ (Nat.le_of_ble_eq_true rfl) (Nat.zero_le _) (Nat.zero_le _) (fun r8 V8 p8 => ?_)
    obtain ⟨rfl, rfl⟩ := And.intro p8.1.symm p8.2
    refine k_rwI (y := nI n) (by rw [hw.1]; exact lN_i n) ?_
    refine k_icmp_ge 11 43 14 C dX4_isCopied_11 (by decide) rfl (fun h11 => ?_) (fun h11 => ?_)
    · rw [n6 (by omega) (by omega)] at h11
      obtain rfl : j = n := by omega
      refine k_iload_n 43 44 C dX4_isCopied_43 rfl 1 rfl ?_
      refine k_zret 44 C dX4_isCopied_44 rfl (by first | exact Or.inl rfl | exact Or.inr rfl | exact bi_01) ?_
      exact ⟨rfl, by rw [hb]⟩
    · rw [n6 (by omega) (by omega)] at h11
      have zl : j < n := by omega
      refine k_iload_n 14 15 C dX4_isCopied_14 rfl 1 rfl ?_
      refine k_ifb_ne 15 31 18 C dX4_isCopied_15 (by decide) rfl (fun h15 => ?_) (fun h15 => ?_)
      · have zn : pcp f num (j + 1) = true := by simp [pcp, hb, h15]
        refine k_iconst 31 32 C dX4_isCopied_31 rfl (v := 1) rfl ?_
        refine k_goto 32 36 C dX4_isCopied_32 (by decide) ?_
        refine k_istore_n 36 37 C [(2, _), (3, _), (0, _), (1, _)] dX4_isCopied_36 rfl (by decide) rfl ?_
        refine k_iinc 37 40 C [(3, _), (2, _), (0, _), (1, _)] (nI (j + 1)) dX4_isCopied_37 rfl 1 rfl (nI_1 j) (by decide) rfl ?_
        refine k_goto 40 4 C dX4_isCopied_40 (by decide) ?_
        exact ih (n - (j + 1)) (by omega) (j + 1) _ rfl (by omega) zn
      · have zb : b = false := by cases b with | false => rfl | true => exact absurd rfl h15
        have zn : pcp f num (j + 1) = decide ((f (hdC j 1)).toInt32 = num) := by simp [pcp, hb, zb]
        refine k_aload_n 18 19 C dX4_isCopied_18 rfl 2 rfl ?_
        refine k_iload_n 19 20 C dX4_isCopied_19 rfl 0 rfl ?_
        refine k_iconst 20 21 C dX4_isCopied_20 rfl (v := 1) rfl ?_
        refine k_callSI 21 24 C [_, _] [_] dX4_isCopied_21 rfl ct_X4_head mi_X4_head ml_X4_85 st_X4_head rfl rfl ⟨Nat.le_of_ble_eq_true rfl, Nat.le_of_ble_eq_true rfl⟩ (Nat.le_of_ble_eq_true rfl) (Nat.zero_le _) (Nat.zero_le _) (fun r21 V21 p21 => ?_)
        obtain ⟨rfl, rfl⟩ := And.intro p21.1.symm p21.2
        refine k_callVI 24 27 C [_] [] dX4_isCopied_24 rfl (ct_X4_of (hd_lt (by omega) (by decide)) hM hf) mi_X4_of ml_X4_65 im_X4_of se_X4_of ci_X4 (IsMdl.o ‹_›) rfl rfl ⟨Nat.le_of_ble_eq_true rfl, Nat.le_of_ble_eq_true rfl⟩ (Nat.le_of_ble_eq_true rfl) (Nat.zero_le _) (Nat.zero_le _) (fun r24 V24 p24 => ?_)
        obtain ⟨rfl, rfl⟩ := And.intro p24.1.symm p24.2
        refine k_iload_n 27 28 C dX4_isCopied_27 rfl 3 rfl ?_
        refine k_icmp_ne 28 35 31 C dX4_isCopied_28 (by decide) rfl (fun h28 => ?_) (fun h28 => ?_)
        · first | rw [decide_eq_true h28] at zn | rw [decide_eq_false h28] at zn
          refine k_iconst 35 36 C dX4_isCopied_35 rfl (v := 0) rfl ?_
          refine k_istore_n 36 37 C [(2, _), (3, _), (0, _), (1, _)] dX4_isCopied_36 rfl (by decide) rfl ?_
          refine k_iinc 37 40 C [(3, _), (2, _), (0, _), (1, _)] (nI (j + 1)) dX4_isCopied_37 rfl 1 rfl (nI_1 j) (by decide) rfl ?_
          refine k_goto 40 4 C dX4_isCopied_40 (by decide) ?_
          exact ih (n - (j + 1)) (by omega) (j + 1) _ rfl (by omega) zn
        · first | rw [decide_eq_true h28] at zn | rw [decide_eq_false h28] at zn
          refine k_iconst 31 32 C dX4_isCopied_31 rfl (v := 1) rfl ?_
          refine k_goto 32 36 C dX4_isCopied_32 (by decide) ?_
          refine k_istore_n 36 37 C [(2, _), (3, _), (0, _), (1, _)] dX4_isCopied_36 rfl (by decide) rfl ?_
          refine k_iinc 37 40 C [(3, _), (2, _), (0, _), (1, _)] (nI (j + 1)) dX4_isCopied_37 rfl 1 rfl (nI_1 j) (by decide) rfl ?_
          refine k_goto 40 4 C dX4_isCopied_40 (by decide) ?_
          exact ih (n - (j + 1)) (by omega) (j + 1) _ rfl (by omega) zn
  refine k_iconst 0 1 C dX4_isCopied_0 rfl (v := 0) rfl ?_
  refine k_istore_n 1 2 C [(2, _), (0, _), (1, _)] dX4_isCopied_1 rfl (by decide) rfl ?_
  refine k_iconst 2 3 C dX4_isCopied_2 rfl (v := 0) rfl ?_
  refine k_istore_n 3 4 C [(3, _), (2, _), (0, _), (1, _)] dX4_isCopied_3 rfl (by decide) rfl ?_
  exact loop4 _ 0 false rfl (Nat.zero_le _) rfl
set_option maxHeartbeats 4000000 in
set_option maxRecDepth 100000 in
theorem ct_X4_isOnBoard {E : gE} {T : gT} {l : Launch} {V : gV} {d k M : Nat} {f : Nat → Int64} (hd : d ≤ 5) (hk : k < 20) (hM : IsMdl T M) (hf : PQ V M f) : CtI E T l yX4_isOnBoard (gw yX4_isOnBoard cX4_isOnBoard 5 (some .boolean)) { frames := 1, cells := 0, slots := 0, locals := 21 } [.ref M, .int (nI d), .int (nI k)] V (fun (r : Int32) (V' : gV) => V' = V ∧ r = bi (onP f d k = true)) := by
  refine ctI_of (L := [(0, .ref M), (1, .int (nI d)), (2, .int (nI k))]) (by decide) rfl (Nat.le_of_ble_eq_true rfl) rfl (fun p e s m args below meth c C => ?_)
  have loop50 : ∀ (zf : Nat) (b : Bool), 0 = zf → ((decide (¬ f (ceC d k) < 0) && decide (¬ f 6 * f (ceC d k + 1) < f (ceC d k))) = b) → KW E T V p l e { frames := 1, cells := 0, slots := 0, locals := 21 } s m args below meth c 5 0 0 (MQ below (va_Qi (fun (r : Int32) (V' : gV) => V' = V ∧ r = bi (onP f d k = true)) (RepS E T) (gA E)) args s 0 0 (gA E)) 50 [(4, .int (bi (b = true))), (3, .int (nI (ceC d k))), (0, .ref M), (1, .int (nI d)), (2, .int (nI k))] [] := by
    intro zf
    induction zf using Nat.strongRecOn with
    | _ zf ih =>
    intro b zhf hb
    refine k_iload 50 52 C dX4_isOnBoard_50 rfl 0 rfl ?_
    refine k_ifb_eq 52 100 55 C dX4_isOnBoard_52 (by decide) rfl (fun h52 => ?_) (fun h52 => ?_)
    · have zb : b = false := by cases b with | false => rfl | true => exact absurd rfl h52
      refine k_iconst 100 101 C dX4_isOnBoard_100 rfl (v := 0) rfl ?_
      refine k_zret 101 C dX4_isOnBoard_101 rfl (by first | exact Or.inl rfl | exact Or.inr rfl | exact bi_01) ?_
      first
        | exact ⟨rfl, by rw [z1]; rfl⟩
        | exact ⟨rfl, by unfold onP; rw [hb, zb]; rfl⟩
    · refine k_aload_n 55 56 C dX4_isOnBoard_55 rfl 2 rfl ?_
      refine k_getF 56 59 C dX4_isOnBoard_56 rfl ci_X4 0 fl_X4_7 (IsMdl.o ‹_›) (by decide) (IsMdl.f0 ‹_›) rfl ?_
      refine k_iload_n 59 60 C dX4_isOnBoard_59 rfl 1 rfl ?_
      refine k_iconst 60 61 C dX4_isOnBoard_60 rfl (v := 2) rfl ?_
      refine k_iadd 61 62 C dX4_isOnBoard_61 rfl  ?_
      refine k_rwI (y := nI (ceC d k + 2)) (nI_add _ 2) ?_
      refine k_lald 62 63 C dX4_isOnBoard_62 rfl (IsMdl.a0 ‹_›) (vp_in_nI (ce_lt hd hk (j := 2) (by decide)) (by decide)) ?_
      rw [nI_clamp (show ceC d k + 2 < 2 ^ 31 by have := ce_lt hd hk (j := 2) (by decide); omega)]
      refine k_rwL (y := f (ceC d k + 2)) (hf _ (ce_lt hd hk (by decide))) ?_
      refine k_lconst 63 64 C dX4_isOnBoard_63 rfl (v := 0) rfl ?_
      refine k_lcmp_lt 64 65 100 68 C dX4_isOnBoard_64 rfl dX4_isOnBoard_65 (by decide) rfl (fun h65 => ?_) (fun h65 => ?_)
      · have z1 : onP f d k = false := by unfold onP; rw [decide_eq_false (p := ¬ f (ceC d k + 2) < 0) (fun zz => zz h65)]; simp
        refine k_iconst 100 101 C dX4_isOnBoard_100 rfl (v := 0) rfl ?_
        refine k_zret 101 C dX4_isOnBoard_101 rfl (by first | exact Or.inl rfl | exact Or.inr rfl | exact bi_01) ?_
        first
          | exact ⟨rfl, by rw [z1]; rfl⟩
          | exact ⟨rfl, by unfold onP; rw [hb, zb]; rfl⟩
      · refine k_aload_n 68 69 C dX4_isOnBoard_68 rfl 2 rfl ?_
        refine k_getF 69 72 C dX4_isOnBoard_69 rfl ci_X4 0 fl_X4_7 (IsMdl.o ‹_›) (by decide) (IsMdl.f0 ‹_›) rfl ?_
        refine k_iload_n 72 73 C dX4_isOnBoard_72 rfl 1 rfl ?_
        refine k_iconst 73 74 C dX4_isOnBoard_73 rfl (v := 2) rfl ?_
        refine k_iadd 74 75 C dX4_isOnBoard_74 rfl  ?_
        refine k_rwI (y := nI (ceC d k + 2)) (nI_add _ 2) ?_
        refine k_lald 75 76 C dX4_isOnBoard_75 rfl (IsMdl.a0 ‹_›) (vp_in_nI (ce_lt hd hk (j := 2) (by decide)) (by decide)) ?_
        rw [nI_clamp (show ceC d k + 2 < 2 ^ 31 by have := ce_lt hd hk (j := 2) (by decide); omega)]
        refine k_rwL (y := f (ceC d k + 2)) (hf _ (ce_lt hd hk (by decide))) ?_
        refine k_aload_n 76 77 C dX4_isOnBoard_76 rfl 2 rfl ?_
        refine k_getF 77 80 C dX4_isOnBoard_77 rfl ci_X4 0 fl_X4_7 (IsMdl.o ‹_›) (by decide) (IsMdl.f0 ‹_›) rfl ?_
        refine k_bipush 80 82 C dX4_isOnBoard_80 rfl (v := 7) rfl ?_
        refine k_lald 82 83 C dX4_isOnBoard_82 rfl (IsMdl.a0 ‹_›) (vp_in_nI (n := 7) (by decide) (by decide)) ?_
        refine k_rwL (y := f 7) (hf 7 (by decide)) ?_
        refine k_aload_n 83 84 C dX4_isOnBoard_83 rfl 2 rfl ?_
        refine k_getF 84 87 C dX4_isOnBoard_84 rfl ci_X4 0 fl_X4_7 (IsMdl.o ‹_›) (by decide) (IsMdl.f0 ‹_›) rfl ?_
        refine k_iload_n 87 88 C dX4_isOnBoard_87 rfl 1 rfl ?_
        refine k_iconst 88 89 C dX4_isOnBoard_88 rfl (v := 3) rfl ?_
        refine k_iadd 89 90 C dX4_isOnBoard_89 rfl  ?_
        refine k_rwI (y := nI (ceC d k + 3)) (nI_add _ 3) ?_
        refine k_lald 90 91 C dX4_isOnBoard_90 rfl (IsMdl.a0 ‹_›) (vp_in_nI (ce_lt hd hk (j := 3) (by decide)) (by decide)) ?_
        rw [nI_clamp (show ceC d k + 3 < 2 ^ 31 by have := ce_lt hd hk (j := 3) (by decide); omega)]
        refine k_rwL (y := f (ceC d k + 3)) (hf _ (ce_lt hd hk (by decide))) ?_
        refine k_lmul 91 92 C dX4_isOnBoard_91 rfl  ?_
        refine k_lcmp_gt 92 93 100 96 C dX4_isOnBoard_92 rfl dX4_isOnBoard_93 (by decide) rfl (fun h93 => ?_) (fun h93 => ?_)
        · have z1 : onP f d k = false := by unfold onP; rw [decide_eq_false (p := ¬ f 7 * f (ceC d k + 3) < f (ceC d k + 2)) (fun zz => zz h93)]; simp
          refine k_iconst 100 101 C dX4_isOnBoard_100 rfl (v := 0) rfl ?_
          refine k_zret 101 C dX4_isOnBoard_101 rfl (by first | exact Or.inl rfl | exact Or.inr rfl | exact bi_01) ?_
          first
            | exact ⟨rfl, by rw [z1]; rfl⟩
            | exact ⟨rfl, by unfold onP; rw [hb, zb]; rfl⟩
        · have z1 : onP f d k = true := by unfold onP; rw [hb, h52, decide_eq_true h65, decide_eq_true h93]; rfl
          refine k_iconst 96 97 C dX4_isOnBoard_96 rfl (v := 1) rfl ?_
          refine k_goto 97 101 C dX4_isOnBoard_97 (by decide) ?_
          refine k_zret 101 C dX4_isOnBoard_101 rfl (by first | exact Or.inl rfl | exact Or.inr rfl | exact bi_01) ?_
          first
            | exact ⟨rfl, by rw [z1]; rfl⟩
            | exact ⟨rfl, by unfold onP; rw [hb, zb]; rfl⟩
  refine k_iload_n 0 1 C dX4_isOnBoard_0 rfl 1 rfl ?_
  refine k_iload_n 1 2 C dX4_isOnBoard_1 rfl 2 rfl ?_
  refine k_callSI 2 5 C [_, _] [] dX4_isOnBoard_2 rfl ct_X4_cellOf mi_X4_cellOf ml_X4_104 st_X4_cellOf rfl rfl ⟨Nat.le_of_ble_eq_true rfl, Nat.le_of_ble_eq_true rfl⟩ (Nat.le_of_ble_eq_true rfl) (Nat.zero_le _) (Nat.zero_le _) (fun r2 V2 p2 => ?_)
  obtain ⟨rfl, rfl⟩ := And.intro p2.1.symm p2.2
  refine k_istore_n 5 6 C [(3, _), (0, _), (1, _), (2, _)] dX4_isOnBoard_5 rfl (by decide) rfl ?_
  refine k_aload_n 6 7 C dX4_isOnBoard_6 rfl 1 rfl ?_
  refine k_getF 7 10 C dX4_isOnBoard_7 rfl ci_X4 0 fl_X4_7 (IsMdl.o ‹_›) (by decide) (IsMdl.f0 ‹_›) rfl ?_
  refine k_iload_n 10 11 C dX4_isOnBoard_10 rfl 0 rfl ?_
  refine k_lald 11 12 C dX4_isOnBoard_11 rfl (IsMdl.a0 ‹_›) (vp_in_nI (ce_lt hd hk (j := 0) (by decide)) (by decide)) ?_
  rw [nI_clamp (show ceC d k < 2 ^ 31 by have := ce_lt hd hk (j := 0) (by decide); omega)]
  refine k_rwL (y := f (ceC d k)) (hf _ (ce_lt hd hk (j := 0) (by decide))) ?_
  refine k_lconst 12 13 C dX4_isOnBoard_12 rfl (v := 0) rfl ?_
  refine k_lcmp_lt 13 14 47 17 C dX4_isOnBoard_13 rfl dX4_isOnBoard_14 (by decide) rfl (fun h14 => ?_) (fun h14 => ?_)
  · refine k_iconst 47 48 C dX4_isOnBoard_47 rfl (v := 0) rfl ?_
    refine k_istore 48 50 C [(4, _), (3, _), (0, _), (1, _), (2, _)] dX4_isOnBoard_48 rfl (by decide) rfl ?_
    first
      | exact loop50 _ true rfl (by rw [decide_eq_true h14, decide_eq_true h40]; rfl)
      | exact loop50 _ false rfl (by rw [decide_eq_true h14, decide_eq_false (fun zz => zz h40)]; rfl)
      | exact loop50 _ false rfl (by rw [decide_eq_false (fun zz => zz h14)]; rfl)
  · refine k_aload_n 17 18 C dX4_isOnBoard_17 rfl 1 rfl ?_
    refine k_getF 18 21 C dX4_isOnBoard_18 rfl ci_X4 0 fl_X4_7 (IsMdl.o ‹_›) (by decide) (IsMdl.f0 ‹_›) rfl ?_
    refine k_iload_n 21 22 C dX4_isOnBoard_21 rfl 0 rfl ?_
    refine k_lald 22 23 C dX4_isOnBoard_22 rfl (IsMdl.a0 ‹_›) (vp_in_nI (ce_lt hd hk (j := 0) (by decide)) (by decide)) ?_
    rw [nI_clamp (show ceC d k < 2 ^ 31 by have := ce_lt hd hk (j := 0) (by decide); omega)]
    refine k_rwL (y := f (ceC d k)) (hf _ (ce_lt hd hk (j := 0) (by decide))) ?_
    refine k_aload_n 23 24 C dX4_isOnBoard_23 rfl 1 rfl ?_
    refine k_getF 24 27 C dX4_isOnBoard_24 rfl ci_X4 0 fl_X4_7 (IsMdl.o ‹_›) (by decide) (IsMdl.f0 ‹_›) rfl ?_
    refine k_bipush 27 29 C dX4_isOnBoard_27 rfl (v := 6) rfl ?_
    refine k_lald 29 30 C dX4_isOnBoard_29 rfl (IsMdl.a0 ‹_›) (vp_in_nI (n := 6) (by decide) (by decide)) ?_
    refine k_rwL (y := f 6) (hf 6 (by decide)) ?_
    refine k_aload_n 30 31 C dX4_isOnBoard_30 rfl 1 rfl ?_
    refine k_getF 31 34 C dX4_isOnBoard_31 rfl ci_X4 0 fl_X4_7 (IsMdl.o ‹_›) (by decide) (IsMdl.f0 ‹_›) rfl ?_
    refine k_iload_n 34 35 C dX4_isOnBoard_34 rfl 0 rfl ?_
    refine k_iconst 35 36 C dX4_isOnBoard_35 rfl (v := 1) rfl ?_
    refine k_iadd 36 37 C dX4_isOnBoard_36 rfl  ?_
    refine k_rwI (y := nI (ceC d k + 1)) (nI_add _ 1) ?_
    refine k_lald 37 38 C dX4_isOnBoard_37 rfl (IsMdl.a0 ‹_›) (vp_in_nI (ce_lt hd hk (j := 1) (by decide)) (by decide)) ?_
    rw [nI_clamp (show ceC d k + 1 < 2 ^ 31 by have := ce_lt hd hk (j := 1) (by decide); omega)]
    refine k_rwL (y := f (ceC d k + 1)) (hf _ (ce_lt hd hk (by decide))) ?_
    refine k_lmul 38 39 C dX4_isOnBoard_38 rfl  ?_
    refine k_lcmp_gt 39 40 47 43 C dX4_isOnBoard_39 rfl dX4_isOnBoard_40 (by decide) rfl (fun h40 => ?_) (fun h40 => ?_)
    · refine k_iconst 47 48 C dX4_isOnBoard_47 rfl (v := 0) rfl ?_
      refine k_istore 48 50 C [(4, _), (3, _), (0, _), (1, _), (2, _)] dX4_isOnBoard_48 rfl (by decide) rfl ?_
      first
        | exact loop50 _ true rfl (by rw [decide_eq_true h14, decide_eq_true h40]; rfl)
        | exact loop50 _ false rfl (by rw [decide_eq_true h14, decide_eq_false (fun zz => zz h40)]; rfl)
        | exact loop50 _ false rfl (by rw [decide_eq_false (fun zz => zz h14)]; rfl)
    · refine k_iconst 43 44 C dX4_isOnBoard_43 rfl (v := 1) rfl ?_
      refine k_goto 44 48 C dX4_isOnBoard_44 (by decide) ?_
      refine k_istore 48 50 C [(4, _), (3, _), (0, _), (1, _), (2, _)] dX4_isOnBoard_48 rfl (by decide) rfl ?_
      first
        | exact loop50 _ true rfl (by rw [decide_eq_true h14, decide_eq_true h40]; rfl)
        | exact loop50 _ false rfl (by rw [decide_eq_true h14, decide_eq_false (fun zz => zz h40)]; rfl)
        | exact loop50 _ false rfl (by rw [decide_eq_false (fun zz => zz h14)]; rfl)
