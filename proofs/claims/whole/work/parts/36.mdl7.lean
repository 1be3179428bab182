def mtP (f : Nat → Int64) (i k ax : Nat) : Int64 × Int64 := (rdN (aimA f ax (f (ceC i k + 2 * ax)) (f (ceC i k + 2 * ax + 1))) (aimB f (f (ceC i k + 2 * ax + 1))), rdD (aimA f ax (f (ceC i k + 2 * ax)) (f (ceC i k + 2 * ax + 1))) (aimB f (f (ceC i k + 2 * ax + 1))))
def mtQ (b : Bool) (f : Nat → Int64) (i w k ax : Nat) : Int64 × Int64 := if b then (folN f (mtP f i k ax).1 (mtP f i k ax).2 (f (ceC w k - 7 + 2 * ax)) (f (ceC w k - 7 + 2 * ax + 1)), folD f (mtP f i k ax).1 (mtP f i k ax).2 (f (ceC w k - 7 + 2 * ax)) (f (ceC w k - 7 + 2 * ax + 1))) else mtP f i k ax
def mtS (b : Bool) (f : Nat → Int64) (i w k ax : Nat) : Nat → Int64 := va_up (va_up f (ceC w k + 2 * ax) (mtQ b f i w k ax).1) (ceC w k + 2 * ax + 1) (mtQ b f i w k ax).2
def mtT (b : Bool) (f : Nat → Int64) (i w k : Nat) : Nat → Int64 := mtS b (mtS b f i w k 0) i w k 1
def mtF (f : Nat → Int64) (i w k : Nat) : Nat → Int64 := va_up (mtT (decide (f (ceC i k + 4) = 1)) f i w k) (ceC w k + 4) (mtT (decide (f (ceC i k + 4) = 1)) f i w k (ceC i k + 4))
def FoOK (f : Nat → Int64) (i w k ax : Nat) : Prop := ¬ dvs (mtP f i k ax).2 (f (ceC w k - 7 + 2 * ax + 1)) = 0 ∧ ¬ dvs (mtP f i k ax).2 1 = 0
def mRt (f : Nat → Int64) : Nat → Nat → Nat
  | 0, d => d
  | w + 1, d => if (f (hdC d 1)).toInt32 = -1 then d else mRt f w (f (hdC d 1)).toInt32.toNatClampNeg
def mSt (f : Nat → Int64) : Nat → Nat → Nat
  | 0, _ => 0
  | w + 1, d => if (f (hdC d 1)).toInt32 = -1 then 0 else mSt f w (f (hdC d 1)).toInt32.toNatClampNeg + 1
def ParOK (f : Nat → Int64) (n : Nat) : Prop := ∀ d, d < n → (f (hdC d 1)).toInt32 = -1 ∨ ∃ q, q < d ∧ (f (hdC d 1)).toInt32 = nI q
theorem mRt_b {f : Nat → Int64} {n : Nat} (hn6 : n ≤ 6) (hP : ParOK f n) : ∀ (w d : Nat), d < w → d < n → ∀ w2, d < w2 → mRt f w d = mRt f w2 d ∧ mSt f w d = mSt f w2 d := by
  intro w
  induction w with
  | zero => intro d hd; omega
  | succ w ih =>
    intro d hd hn w2 h2
    obtain ⟨v, rfl⟩ : ∃ v, w2 = v + 1 := ⟨w2 - 1, by omega⟩
    unfold mRt mSt
    rcases hP d hn with h | ⟨q, hq, h⟩
    · rw [if_pos h, if_pos h, if_pos h, if_pos h]; exact ⟨rfl, rfl⟩
    · rw [h, nI_clamp (show q < 2 ^ 31 by omega)]
      obtain ⟨e1, e2⟩ := ih q (by omega) (by omega) v (by omega)
      rw [e1, e2]
      exact ⟨rfl, rfl⟩
set_option maxHeartbeats 4000000 in
set_option maxRecDepth 100000 in
theorem ct_X4_root {E : gE} {T : gT} {l : Launch} {V : gV} {d n M : Nat} {f : Nat → Int64} (hd : d < n) (hn : n ≤ 6) (hP : ParOK f n) (hM : IsMdl T M) (hf : PQ V M f) : CtI E T l yX4_root (gw yX4_root cX4_root 3 (some .int)) { frames := 1, cells := 0, slots := 0, locals := 21 } [.ref M, .int (nI d)] V (fun (r : Int32) (V' : gV) => V' = V ∧ r = nI (mRt f (d + 1) d)) := by
  refine ctI_of (L := [(0, .ref M), (1, .int (nI d))]) (by decide) rfl (Nat.le_of_ble_eq_true rfl) rfl (fun p e s m args below meth c C => ?_)
  have loop2 : ∀ (zf : Nat) (w : Nat), w = zf → (w < n) → (mRt f (w + 1) w = mRt f (d + 1) d) → KW E T V p l e { frames := 1, cells := 0, slots := 0, locals := 21 } s m args below meth c 3 0 0 (MQ below (va_Qi (fun (r : Int32) (V' : gV) => V' = V ∧ r = nI (mRt f (d + 1) d)) (RepS E T) (gA E)) args s 0 0 (gA E)) 2 [(2, .int (nI w)), (0, .ref M), (1, .int (nI d))] [] := by
    intro zf
    induction zf using Nat.strongRecOn with
    | _ zf ih =>
    intro w zhf hw hg
    refine k_aload_n 2 3 C dX4_root_2 rfl 1 rfl ?_
    refine k_iload_n 3 4 C dX4_root_3 rfl 0 rfl ?_
    refine k_iconst 4 5 C dX4_root_4 rfl (v := 1) rfl ?_
    refine k_callSI 5 8 C [_, _] [_] dX4_root_5 rfl (ct_X4_head (d := w) (k := 1)) mi_X4_head ml_X4_85 st_X4_head rfl rfl ⟨Nat.le_of_ble_eq_true rfl, Nat.le_of_ble_eq_true rfl⟩ (Nat.le_of_ble_eq_true rfl) (Nat.zero_le _) (Nat.zero_le _) (fun r5 V5 p5 => ?_)
    obtain ⟨rfl, rfl⟩ := And.intro p5.1.symm p5.2
    refine k_callVI 8 11 C [_] [] dX4_root_8 rfl (ct_X4_of (hd_lt (by omega) (by decide)) hM hf) mi_X4_of ml_X4_65 im_X4_of se_X4_of ci_X4 (IsMdl.o ‹_›) rfl rfl ⟨Nat.le_of_ble_eq_true rfl, Nat.le_of_ble_eq_true rfl⟩ (Nat.le_of_ble_eq_true rfl) (Nat.zero_le _) (Nat.zero_le _) (fun r8 V8 p8 => ?_)
    obtain ⟨rfl, rfl⟩ := And.intro p8.1.symm p8.2
    refine k_iconst 11 12 C dX4_root_11 rfl (v := (-1)) rfl ?_
    refine k_icmp_eq 12 28 15 C dX4_root_12 (by decide) rfl (fun h12 => ?_) (fun h12 => ?_)
    · have z1 : mRt f (w + 1) w = w := by unfold mRt; rw [if_pos h12]
      refine k_iload_n 28 29 C dX4_root_28 rfl 0 rfl ?_
      refine k_iret 29 C dX4_root_29 rfl ?_
      exact ⟨rfl, by rw [← hg, z1]⟩
    · obtain ⟨zq, zl, ze⟩ := (hP w hw).resolve_left h12
      have zg : mRt f (zq + 1) zq = mRt f (d + 1) d := by
        rw [← hg]
        conv => rhs; unfold mRt
        rw [if_neg h12, ze, nI_clamp (show zq < 2 ^ 31 by omega)]
        exact (mRt_b hn hP _ _ (by omega) (by omega) _ (by omega)).1
      refine k_aload_n 15 16 C dX4_root_15 rfl 1 rfl ?_
      refine k_iload_n 16 17 C dX4_root_16 rfl 0 rfl ?_
      refine k_iconst 17 18 C dX4_root_17 rfl (v := 1) rfl ?_
      refine k_callSI 18 21 C [_, _] [_] dX4_root_18 rfl (ct_X4_head (d := w) (k := 1)) mi_X4_head ml_X4_85 st_X4_head rfl rfl ⟨Nat.le_of_ble_eq_true rfl, Nat.le_of_ble_eq_true rfl⟩ (Nat.le_of_ble_eq_true rfl) (Nat.zero_le _) (Nat.zero_le _) (fun r18 V18 p18 => ?_)
      obtain ⟨rfl, rfl⟩ := And.intro p18.1.symm p18.2
      refine k_callVI 21 24 C [_] [] dX4_root_21 rfl (ct_X4_of (hd_lt (by omega) (by decide)) hM hf) mi_X4_of ml_X4_65 im_X4_of se_X4_of ci_X4 (IsMdl.o ‹_›) rfl rfl ⟨Nat.le_of_ble_eq_true rfl, Nat.le_of_ble_eq_true rfl⟩ (Nat.le_of_ble_eq_true rfl) (Nat.zero_le _) (Nat.zero_le _) (fun r21 V21 p21 => ?_)
      obtain ⟨rfl, rfl⟩ := And.intro p21.1.symm p21.2
      refine k_rwI (y := nI zq) ze ?_
      refine k_istore_n 24 25 C [(2, _), (0, _), (1, _)] dX4_root_24 rfl (by decide) rfl ?_
      refine k_goto 25 2 C dX4_root_25 (by decide) ?_
      exact ih zq (by omega) zq rfl (by omega) zg
  refine k_iload_n 0 1 C dX4_root_0 rfl 1 rfl ?_
  refine k_istore_n 1 2 C [(2, _), (0, _), (1, _)] dX4_root_1 rfl (by decide) rfl ?_
  exact loop2 _ d rfl hd rfl
set_option maxHeartbeats 4000000 in
set_option maxRecDepth 100000 in
theorem ct_X4_steps {E : gE} {T : gT} {l : Launch} {V : gV} {d n M : Nat} {f : Nat → Int64} (hd : d < n) (hn : n ≤ 6) (hP : ParOK f n) (hM : IsMdl T M) (hf : PQ V M f) : CtI E T l yX4_steps (gw yX4_steps cX4_steps 4 (some .int)) { frames := 1, cells := 0, slots := 0, locals := 21 } [.ref M, .int (nI d)] V (fun (r : Int32) (V' : gV) => V' = V ∧ r = nI (mSt f (d + 1) d)) := by
  refine ctI_of (L := [(0, .ref M), (1, .int (nI d))]) (by decide) rfl (Nat.le_of_ble_eq_true rfl) rfl (fun p e s m args below meth c C => ?_)
  have loop4 : ∀ (zf : Nat) (w u : Nat), w = zf → (w < n) → (u + mSt f (w + 1) w = mSt f (d + 1) d) → KW E T V p l e { frames := 1, cells := 0, slots := 0, locals := 21 } s m args below meth c 4 0 0 (MQ below (va_Qi (fun (r : Int32) (V' : gV) => V' = V ∧ r = nI (mSt f (d + 1) d)) (RepS E T) (gA E)) args s 0 0 (gA E)) 4 [(3, .int (nI w)), (2, .int (nI u)), (0, .ref M), (1, .int (nI d))] [] := by
    intro zf
    induction zf using Nat.strongRecOn with
    | _ zf ih =>
    intro w u zhf hw hg
    refine k_aload_n 4 5 C dX4_steps_4 rfl 2 rfl ?_
    refine k_iload_n 5 6 C dX4_steps_5 rfl 0 rfl ?_
    refine k_iconst 6 7 C dX4_steps_6 rfl (v := 1) rfl ?_
    refine k_callSI 7 10 C [_, _] [_] dX4_steps_7 rfl (ct_X4_head (d := w) (k := 1)) mi_X4_head ml_X4_85 st_X4_head rfl rfl ⟨Nat.le_of_ble_eq_true rfl, Nat.le_of_ble_eq_true rfl⟩ (Nat.le_of_ble_eq_true rfl) (Nat.zero_le _) (Nat.zero_le _) (fun r7 V7 p7 => ?_)
    obtain ⟨rfl, rfl⟩ := And.intro p7.1.symm p7.2
    refine k_callVI 10 13 C [_] [] dX4_steps_10 rfl (ct_X4_of (hd_lt (by omega) (by decide)) hM hf) mi_X4_of ml_X4_65 im_X4_of se_X4_of ci_X4 (IsMdl.o ‹_›) rfl rfl ⟨Nat.le_of_ble_eq_true rfl, Nat.le_of_ble_eq_true rfl⟩ (Nat.le_of_ble_eq_true rfl) (Nat.zero_le _) (Nat.zero_le _) (fun r10 V10 p10 => ?_)
    obtain ⟨rfl, rfl⟩ := And.intro p10.1.symm p10.2
    refine k_iconst 13 14 C dX4_steps_13 rfl (v := (-1)) rfl ?_
    refine k_icmp_eq 14 33 17 C dX4_steps_14 (by decide) rfl (fun h14 => ?_) (fun h14 => ?_)
    · have z1 : mSt f (w + 1) w = 0 := by unfold mSt; rw [if_pos h14]
      refine k_iload_n 33 34 C dX4_steps_33 rfl 1 rfl ?_
      refine k_iret 34 C dX4_steps_34 rfl ?_
      exact ⟨rfl, by rw [← hg, z1]; rfl⟩
    · obtain ⟨zq, zl, ze⟩ := (hP w hw).resolve_left h14
      have zg : u + 1 + mSt f (zq + 1) zq = mSt f (d + 1) d := by
        rw [← hg]
        conv => rhs; unfold mSt
        rw [if_neg h14, ze, nI_clamp (show zq < 2 ^ 31 by omega), (mRt_b hn hP (zq + 1) zq (by omega) (by omega) w (by omega)).2]
        omega
      refine k_aload_n 17 18 C dX4_steps_17 rfl 2 rfl ?_
      refine k_iload_n 18 19 C dX4_steps_18 rfl 0 rfl ?_
      refine k_iconst 19 20 C dX4_steps_19 rfl (v := 1) rfl ?_
      refine k_callSI 20 23 C [_, _] [_] dX4_steps_20 rfl (ct_X4_head (d := w) (k := 1)) mi_X4_head ml_X4_85 st_X4_head rfl rfl ⟨Nat.le_of_ble_eq_true rfl, Nat.le_of_ble_eq_true rfl⟩ (Nat.le_of_ble_eq_true rfl) (Nat.zero_le _) (Nat.zero_le _) (fun r20 V20 p20 => ?_)
      obtain ⟨rfl, rfl⟩ := And.intro p20.1.symm p20.2
      refine k_callVI 23 26 C [_] [] dX4_steps_23 rfl (ct_X4_of (hd_lt (by omega) (by decide)) hM hf) mi_X4_of ml_X4_65 im_X4_of se_X4_of ci_X4 (IsMdl.o ‹_›) rfl rfl ⟨Nat.le_of_ble_eq_true rfl, Nat.le_of_ble_eq_true rfl⟩ (Nat.le_of_ble_eq_true rfl) (Nat.zero_le _) (Nat.zero_le _) (fun r23 V23 p23 => ?_)
      obtain ⟨rfl, rfl⟩ := And.intro p23.1.symm p23.2
      refine k_rwI (y := nI zq) ze ?_
      refine k_istore_n 26 27 C [(3, _), (2, _), (0, _), (1, _)] dX4_steps_26 rfl (by decide) rfl ?_
      refine k_iinc 27 30 C [(2, _), (3, _), (0, _), (1, _)] (nI (u + 1)) dX4_steps_27 rfl 1 rfl (nI_1 (u)) (by decide) rfl ?_
      refine k_goto 30 4 C dX4_steps_30 (by decide) ?_
      refine k_perm [1, 0, 2, 3] (L' := [(3, _), (2, _), (0, _), (1, _)]) rfl ?_
      exact ih zq (by omega) zq (u + 1) rfl (by omega) zg
  refine k_iconst 0 1 C dX4_steps_0 rfl (v := 0) rfl ?_
  refine k_istore_n 1 2 C [(2, _), (0, _), (1, _)] dX4_steps_1 rfl (by decide) rfl ?_
  refine k_iload_n 2 3 C dX4_steps_2 rfl 2 rfl ?_
  refine k_istore_n 3 4 C [(3, _), (2, _), (0, _), (1, _)] dX4_steps_3 rfl (by decide) rfl ?_
  exact loop4 _ d 0 rfl hd (Nat.zero_add _)
set_option maxHeartbeats 4000000 in
set_option maxRecDepth 100000 in
theorem ct_X4_trace {E : gE} {T : gT} {l : Launch} {V : gV} {i w k M : Nat} {f : Nat → Int64} (hi : i ≤ 5) (hw : w ≤ 5) (hk : k < 20) (hF : f (ceC i k + 4) = 1 → FoOK f i w k 0 ∧ FoOK (mtS true f i w k 0) i w k 1) (hM : IsMdl T M) (hf : PQ V M f) : CtV E T l yX4_trace (gw yX4_trace cX4_trace 8 none) { frames := 5, cells := 0, slots := 0, locals := 138 } [.ref M, .int (nI i), .int (nI w), .int (nI k)] V (fun (V' : gV) => Pg V V' M (mtF f i w k)) := by
  refine ctV_of (L := [(0, .ref M), (1, .int (nI i)), (2, .int (nI w)), (3, .int (nI k))]) (by decide) rfl (Nat.le_of_ble_eq_true rfl) rfl (fun p e s m args below meth c C => ?_)
  refine k_iload_n 0 1 C dX4_trace_0 rfl 1 rfl ?_
  refine k_iload_n 1 2 C dX4_trace_1 rfl 3 rfl ?_
  refine k_callSI 2 5 C [_, _] [] dX4_trace_2 rfl (ct_X4_cellOf (d := i) (k := k)) mi_X4_cellOf ml_X4_104 st_X4_cellOf rfl rfl ⟨Nat.le_of_ble_eq_true rfl, Nat.le_of_ble_eq_true rfl⟩ (Nat.le_of_ble_eq_true rfl) (Nat.zero_le _) (Nat.zero_le _) (fun r2 V2 p2 => ?_)
  obtain ⟨rfl, rfl⟩ := And.intro p2.1.symm p2.2
  refine k_istore 5 7 C [(4, _), (0, _), (1, _), (2, _), (3, _)] dX4_trace_5 rfl (by decide) rfl ?_
  refine k_iload_n 7 8 C dX4_trace_7 rfl 3 rfl ?_
  refine k_iload_n 8 9 C dX4_trace_8 rfl 4 rfl ?_
  refine k_callSI 9 12 C [_, _] [] dX4_trace_9 rfl (ct_X4_cellOf (d := w) (k := k)) mi_X4_cellOf ml_X4_104 st_X4_cellOf rfl rfl ⟨Nat.le_of_ble_eq_true rfl, Nat.le_of_ble_eq_true rfl⟩ (Nat.le_of_ble_eq_true rfl) (Nat.zero_le _) (Nat.zero_le _) (fun r9 V9 p9 => ?_)
  obtain ⟨rfl, rfl⟩ := And.intro p9.1.symm p9.2
  refine k_istore 12 14 C [(5, _), (4, _), (0, _), (1, _), (2, _), (3, _)] dX4_trace_12 rfl (by decide) rfl ?_
  refine k_aload_n 14 15 C dX4_trace_14 rfl 2 rfl ?_
  refine k_getF 15 18 C dX4_trace_15 rfl ci_X4 0 fl_X4_7 (IsMdl.o ‹_›) (by decide) (IsMdl.f0 ‹_›) rfl ?_
  refine k_iload 18 20 C dX4_trace_18 rfl 1 rfl ?_
  refine k_iconst 20 21 C dX4_trace_20 rfl (v := 4) rfl ?_
  refine k_iadd 21 22 C dX4_trace_21 rfl  ?_
  refine k_rwI (y := nI ((ceC (i) (k)) + (4))) (nI_add (ceC (i) (k)) (4)) ?_
  refine k_laldP 22 23 C dX4_trace_22 rfl ‹_› (f := f) (hf) (c0 := (ceC (i) (k)) + (4)) (by first | omega | (simp only [hdC, ceC]; omega)) ?_
  refine k_lconst 23 24 C dX4_trace_23 rfl (v := 1) rfl ?_
  refine k_lcmp_ne 24 25 32 28 C dX4_trace_24 rfl dX4_trace_25 (by decide) rfl (fun h25 => ?_) (fun h25 => ?_)
  · have zb : decide (f (ceC i k + 4) = 1) = false := decide_eq_false h25
    refine k_iconst 32 33 C dX4_trace_32 rfl (v := 0) rfl ?_
    refine k_istore 33 35 C [(6, _), (5, _), (4, _), (0, _), (1, _), (2, _), (3, _)] dX4_trace_33 rfl (by decide) rfl ?_
    refine k_iconst 35 36 C dX4_trace_35 rfl (v := 0) rfl ?_
    refine k_istore 36 38 C [(7, _), (6, _), (5, _), (4, _), (0, _), (1, _), (2, _), (3, _)] dX4_trace_36 rfl (by decide) rfl ?_
    refine k_iload 38 40 C dX4_trace_38 rfl 0 rfl ?_
    refine k_iconst 40 41 C dX4_trace_40 rfl (v := 2) rfl ?_
    refine k_icmp_ge 41 134 44 C dX4_trace_41 (by decide) rfl (fun h41 => ?_) (fun h41 => ?_)
    · exact absurd h41 (by decide)
    · refine k_aload_n 44 45 C dX4_trace_44 rfl 4 rfl ?_
      refine k_iload 45 47 C dX4_trace_45 rfl 0 rfl ?_
      refine k_aload_n 47 48 C dX4_trace_47 rfl 4 rfl ?_
      refine k_getF 48 51 C dX4_trace_48 rfl ci_X4 0 fl_X4_7 (IsMdl.o ‹_›) (by decide) (IsMdl.f0 ‹_›) rfl ?_
      refine k_iload 51 53 C dX4_trace_51 rfl 3 rfl ?_
      refine k_iconst 53 54 C dX4_trace_53 rfl (v := 2) rfl ?_
      refine k_iload 54 56 C dX4_trace_54 rfl 0 rfl ?_
      refine k_imul 56 57 C dX4_trace_56 rfl  ?_
      refine k_rwI (y := nI (0)) (pk_mul (2) (0)) ?_
      refine k_iadd 57 58 C dX4_trace_57 rfl  ?_
      refine k_rwI (y := nI ((ceC (i) (k)) + (0))) (nI_add (ceC (i) (k)) (0)) ?_
      refine k_laldP 58 59 C dX4_trace_58 rfl ‹_› (f := f) (hf) (c0 := (ceC (i) (k)) + (0)) (by first | omega | (simp only [hdC, ceC]; omega)) ?_
      refine k_aload_n 59 60 C dX4_trace_59 rfl 4 rfl ?_
      refine k_getF 60 63 C dX4_trace_60 rfl ci_X4 0 fl_X4_7 (IsMdl.o ‹_›) (by decide) (IsMdl.f0 ‹_›) rfl ?_
      refine k_iload 63 65 C dX4_trace_63 rfl 3 rfl ?_
      refine k_iconst 65 66 C dX4_trace_65 rfl (v := 2) rfl ?_
      refine k_iload 66 68 C dX4_trace_66 rfl 0 rfl ?_
      refine k_imul 68 69 C dX4_trace_68 rfl  ?_
      refine k_rwI (y := nI (0)) (pk_mul (2) (0)) ?_
      refine k_iadd 69 70 C dX4_trace_69 rfl  ?_
      refine k_rwI (y := nI ((ceC (i) (k)) + (0))) (nI_add (ceC (i) (k)) (0)) ?_
      refine k_iconst 70 71 C dX4_trace_70 rfl (v := 1) rfl ?_
      refine k_iadd 71 72 C dX4_trace_71 rfl  ?_
      refine k_rwI (y := nI (((ceC (i) (k)) + (0)) + (1))) (nI_add ((ceC (i) (k)) + (0)) (1)) ?_
      refine k_laldP 72 73 C dX4_trace_72 rfl ‹_› (f := f) (hf) (c0 := ((ceC (i) (k)) + (0)) + (1)) (by first | omega | (simp only [hdC, ceC]; omega)) ?_
      refine k_callVV 73 76 C [_, _, _] [] dX4_trace_73 rfl (ct_X4_aim (by decide) hM (hf)) mi_X4_aim ml_X4_127 im_X4_aim se_X4_aim ci_X4 (IsMdl.o ‹_›) rfl rfl ⟨Nat.le_of_ble_eq_true rfl, Nat.le_of_ble_eq_true rfl⟩ (Nat.le_of_ble_eq_true rfl) (Nat.zero_le _) (Nat.zero_le _) (fun V73 p73 => ?_)
      obtain ⟨g73, t73, u73⟩ := tl_all p73 (hf)
      refine k_iload 76 78 C dX4_trace_76 rfl 1 rfl ?_
      refine k_if_eq 78 117 81 C dX4_trace_78 (by decide) rfl (fun h78 => ?_) (fun h78 => ?_)
      · refine k_aload_n 117 118 C dX4_trace_117 rfl 4 rfl ?_
        refine k_iload 118 120 C dX4_trace_118 rfl 2 rfl ?_
        refine k_iconst 120 121 C dX4_trace_120 rfl (v := 2) rfl ?_
        refine k_iload 121 123 C dX4_trace_121 rfl 0 rfl ?_
        refine k_imul 123 124 C dX4_trace_123 rfl  ?_
        refine k_rwI (y := nI (0)) (pk_mul (2) (0)) ?_
        refine k_iadd 124 125 C dX4_trace_124 rfl  ?_
        refine k_rwI (y := nI ((ceC (w) (k)) + (0))) (nI_add (ceC (w) (k)) (0)) ?_
        refine k_callVV 125 128 C [_] [] dX4_trace_125 rfl (ct_X4_put (k := (ceC (w) (k)) + (0)) (by first | omega | (simp only [hdC, ceC]; omega)) t73 u73 hM) mi_X4_put ml_X4_134 im_X4_put se_X4_put ci_X4 (IsMdl.o ‹_›) rfl rfl ⟨Nat.le_of_ble_eq_true rfl, Nat.le_of_ble_eq_true rfl⟩ (Nat.le_of_ble_eq_true rfl) (Nat.zero_le _) (Nat.zero_le _) (fun V125 p125 => ?_)
        have g125 := put_all p125 (g73.2.2.2)
        have zS0 : Pg V _ M (mtS false f i w k 0) := ((Pg.rf hf).trans g73).trans g125
        refine k_iinc 128 131 C [(7, _), (6, _), (5, _), (4, _), (0, _), (1, _), (2, _), (3, _)] (nI (1)) dX4_trace_128 rfl 0 rfl (nI_1 (0)) (by decide) rfl ?_
        refine k_goto 131 38 C dX4_trace_131 (by decide) ?_
        refine k_iload 38 40 C dX4_trace_38 rfl 0 rfl ?_
        refine k_iconst 40 41 C dX4_trace_40 rfl (v := 2) rfl ?_
        refine k_icmp_ge 41 134 44 C dX4_trace_41 (by decide) rfl (fun h41 => ?_) (fun h41 => ?_)
        · exact absurd h41 (by decide)
        · refine k_aload_n 44 45 C dX4_trace_44 rfl 4 rfl ?_
          refine k_iload 45 47 C dX4_trace_45 rfl 0 rfl ?_
          refine k_aload_n 47 48 C dX4_trace_47 rfl 4 rfl ?_
          refine k_getF 48 51 C dX4_trace_48 rfl ci_X4 0 fl_X4_7 (IsMdl.o ‹_›) (by decide) (IsMdl.f0 ‹_›) rfl ?_
          refine k_iload 51 53 C dX4_trace_51 rfl 3 rfl ?_
          refine k_iconst 53 54 C dX4_trace_53 rfl (v := 2) rfl ?_
          refine k_iload 54 56 C dX4_trace_54 rfl 0 rfl ?_
          refine k_imul 56 57 C dX4_trace_56 rfl  ?_
          refine k_rwI (y := nI (2)) (pk_mul (2) (1)) ?_
          refine k_iadd 57 58 C dX4_trace_57 rfl  ?_
          refine k_rwI (y := nI ((ceC (i) (k)) + (2))) (nI_add (ceC (i) (k)) (2)) ?_
          refine k_laldP 58 59 C dX4_trace_58 rfl ‹_› (f := mtS false f i w k 0) (zS0.2.2.2) (c0 := (ceC (i) (k)) + (2)) (by first | omega | (simp only [hdC, ceC]; omega)) ?_
          refine k_aload_n 59 60 C dX4_trace_59 rfl 4 rfl ?_
          refine k_getF 60 63 C dX4_trace_60 rfl ci_X4 0 fl_X4_7 (IsMdl.o ‹_›) (by decide) (IsMdl.f0 ‹_›) rfl ?_
          refine k_iload 63 65 C dX4_trace_63 rfl 3 rfl ?_
          refine k_iconst 65 66 C dX4_trace_65 rfl (v := 2) rfl ?_
          refine k_iload 66 68 C dX4_trace_66 rfl 0 rfl ?_
          refine k_imul 68 69 C dX4_trace_68 rfl  ?_
          refine k_rwI (y := nI (2)) (pk_mul (2) (1)) ?_
          refine k_iadd 69 70 C dX4_trace_69 rfl  ?_
          refine k_rwI (y := nI ((ceC (i) (k)) + (2))) (nI_add (ceC (i) (k)) (2)) ?_
          refine k_iconst 70 71 C dX4_trace_70 rfl (v := 1) rfl ?_
          refine k_iadd 71 72 C dX4_trace_71 rfl  ?_
          refine k_rwI (y := nI (((ceC (i) (k)) + (2)) + (1))) (nI_add ((ceC (i) (k)) + (2)) (1)) ?_
          refine k_laldP 72 73 C dX4_trace_72 rfl ‹_› (f := mtS false f i w k 0) (zS0.2.2.2) (c0 := ((ceC (i) (k)) + (2)) + (1)) (by first | omega | (simp only [hdC, ceC]; omega)) ?_
          refine k_callVV 73 76 C [_, _, _] [] dX4_trace_73 rfl (ct_X4_aim (by decide) hM (zS0.2.2.2)) mi_X4_aim ml_X4_127 im_X4_aim se_X4_aim ci_X4 (IsMdl.o ‹_›) rfl rfl ⟨Nat.le_of_ble_eq_true rfl, Nat.le_of_ble_eq_true rfl⟩ (Nat.le_of_ble_eq_true rfl) (Nat.zero_le _) (Nat.zero_le _) (fun V73 p73 => ?_)
          obtain ⟨g73, t73, u73⟩ := tl_all p73 (zS0.2.2.2)
          refine k_iload 76 78 C dX4_trace_76 rfl 1 rfl ?_
          refine k_if_eq 78 117 81 C dX4_trace_78 (by decide) rfl (fun h78 => ?_) (fun h78 => ?_)
          · refine k_aload_n 117 118 C dX4_trace_117 rfl 4 rfl ?_
            refine k_iload 118 120 C dX4_trace_118 rfl 2 rfl ?_
            refine k_iconst 120 121 C dX4_trace_120 rfl (v := 2) rfl ?_
            refine k_iload 121 123 C dX4_trace_121 rfl 0 rfl ?_
            refine k_imul 123 124 C dX4_trace_123 rfl  ?_
            refine k_rwI (y := nI (2)) (pk_mul (2) (1)) ?_
            refine k_iadd 124 125 C dX4_trace_124 rfl  ?_
            refine k_rwI (y := nI ((ceC (w) (k)) + (2))) (nI_add (ceC (w) (k)) (2)) ?_
            refine k_callVV 125 128 C [_] [] dX4_trace_125 rfl (ct_X4_put (k := (ceC (w) (k)) + (2)) (by first | omega | (simp only [hdC, ceC]; omega)) t73 u73 hM) mi_X4_put ml_X4_134 im_X4_put se_X4_put ci_X4 (IsMdl.o ‹_›) rfl rfl ⟨Nat.le_of_ble_eq_true rfl, Nat.le_of_ble_eq_true rfl⟩ (Nat.le_of_ble_eq_true rfl) (Nat.zero_le _) (Nat.zero_le _) (fun V125 p125 => ?_)
            have g125 := put_all p125 (g73.2.2.2)
            have zS1 : Pg V _ M (mtT false f i w k) := ((zS0).trans g73).trans g125
            refine k_iinc 128 131 C [(7, _), (6, _), (5, _), (4, _), (0, _), (1, _), (2, _), (3, _)] (nI (2)) dX4_trace_128 rfl 0 rfl (nI_1 (1)) (by decide) rfl ?_
            refine k_goto 131 38 C dX4_trace_131 (by decide) ?_
            refine k_iload 38 40 C dX4_trace_38 rfl 0 rfl ?_
            refine k_iconst 40 41 C dX4_trace_40 rfl (v := 2) rfl ?_
            refine k_icmp_ge 41 134 44 C dX4_trace_41 (by decide) rfl (fun h41 => ?_) (fun h41 => ?_)
            · refine k_aload_n 134 135 C dX4_trace_134 rfl 4 rfl ?_
              refine k_getF 135 138 C dX4_trace_135 rfl ci_X4 0 fl_X4_7 (IsMdl.o ‹_›) (by decide) (IsMdl.f0 ‹_›) rfl ?_
              refine k_iload 138 140 C dX4_trace_138 rfl 2 rfl ?_
              refine k_iconst 140 141 C dX4_trace_140 rfl (v := 4) rfl ?_
              refine k_iadd 141 142 C dX4_trace_141 rfl  ?_
              refine k_rwI (y := nI ((ceC (w) (k)) + (4))) (nI_add (ceC (w) (k)) (4)) ?_
              refine k_aload_n 142 143 C dX4_trace_142 rfl 4 rfl ?_
              refine k_getF 143 146 C dX4_trace_143 rfl ci_X4 0 fl_X4_7 (IsMdl.o ‹_›) (by decide) (IsMdl.f0 ‹_›) rfl ?_
              refine k_iload 146 148 C dX4_trace_146 rfl 3 rfl ?_
              refine k_iconst 148 149 C dX4_trace_148 rfl (v := 4) rfl ?_
              refine k_iadd 149 150 C dX4_trace_149 rfl  ?_
              refine k_rwI (y := nI ((ceC (i) (k)) + (4))) (nI_add (ceC (i) (k)) (4)) ?_
              refine k_laldP 150 151 C dX4_trace_150 rfl ‹_› (f := mtT false f i w k) (zS1.2.2.2) (c0 := (ceC (i) (k)) + (4)) (by first | omega | (simp only [hdC, ceC]; omega)) ?_
              refine k_lastP 151 152 C dX4_trace_151 rfl ‹_› (f := mtT false f i w k) (zS1.2.2.2) (c0 := (ceC (w) (k)) + (4)) (by first | omega | (simp only [hdC, ceC]; omega)) (fun V151 p151 => ?_)
              refine k_vret 152 C dX4_trace_152 rfl ?_
              unfold mtF
              rw [zb]
              exact (zS1).trans p151
            · exact absurd h41 (by decide)
          · exact absurd h78 (by decide)
      · exact absurd h78 (by decide)
  · obtain ⟨zF0, zF1⟩ := hF h25
    have zb : decide (f (ceC i k + 4) = 1) = true := decide_eq_true h25
    refine k_iconst 28 29 C dX4_trace_28 rfl (v := 1) rfl ?_
    refine k_goto 29 33 C dX4_trace_29 (by decide) ?_
    refine k_istore 33 35 C [(6, _), (5, _), (4, _), (0, _), (1, _), (2, _), (3, _)] dX4_trace_33 rfl (by decide) rfl ?_
    refine k_iconst 35 36 C dX4_trace_35 rfl (v := 0) rfl ?_
    refine k_istore 36 38 C [(7, _), (6, _), (5, _), (4, _), (0, _), (1, _), (2, _), (3, _)] dX4_trace_36 rfl (by decide) rfl ?_
    refine k_iload 38 40 C dX4_trace_38 rfl 0 rfl ?_
    refine k_iconst 40 41 C dX4_trace_40 rfl (v := 2) rfl ?_
    refine k_icmp_ge 41 134 44 C dX4_trace_41 (by decide) rfl (fun h41 => ?_) (fun h41 => ?_)
    · exact absurd h41 (by decide)
    · refine k_aload_n 44 45 C dX4_trace_44 rfl 4 rfl ?_
      refine k_iload 45 47 C dX4_trace_45 rfl 0 rfl ?_
      refine k_aload_n 47 48 C dX4_trace_47 rfl 4 rfl ?_
      refine k_getF 48 51 C dX4_trace_48 rfl ci_X4 0 fl_X4_7 (IsMdl.o ‹_›) (by decide) (IsMdl.f0 ‹_›) rfl ?_
      refine k_iload 51 53 C dX4_trace_51 rfl 3 rfl ?_
      refine k_iconst 53 54 C dX4_trace_53 rfl (v := 2) rfl ?_
      refine k_iload 54 56 C dX4_trace_54 rfl 0 rfl ?_
      refine k_imul 56 57 C dX4_trace_56 rfl  ?_
      refine k_rwI (y := nI (0)) (pk_mul (2) (0)) ?_
      refine k_iadd 57 58 C dX4_trace_57 rfl  ?_
      refine k_rwI (y := nI ((ceC (i) (k)) + (0))) (nI_add (ceC (i) (k)) (0)) ?_
      refine k_laldP 58 59 C dX4_trace_58 rfl ‹_› (f := f) (hf) (c0 := (ceC (i) (k)) + (0)) (by first | omega | (simp only [hdC, ceC]; omega)) ?_
      refine k_aload_n 59 60 C dX4_trace_59 rfl 4 rfl ?_
      refine k_getF 60 63 C dX4_trace_60 rfl ci_X4 0 fl_X4_7 (IsMdl.o ‹_›) (by decide) (IsMdl.f0 ‹_›) rfl ?_
      refine k_iload 63 65 C dX4_trace_63 rfl 3 rfl ?_
      refine k_iconst 65 66 C dX4_trace_65 rfl (v := 2) rfl ?_
      refine k_iload 66 68 C dX4_trace_66 rfl 0 rfl ?_
      refine k_imul 68 69 C dX4_trace_68 rfl  ?_
      refine k_rwI (y := nI (0)) (pk_mul (2) (0)) ?_
      refine k_iadd 69 70 C dX4_trace_69 rfl  ?_
      refine k_rwI (y := nI ((ceC (i) (k)) + (0))) (nI_add (ceC (i) (k)) (0)) ?_
      refine k_iconst 70 71 C dX4_trace_70 rfl (v := 1) rfl ?_
      refine k_iadd 71 72 C dX4_trace_71 rfl  ?_
      refine k_rwI (y := nI (((ceC (i) (k)) + (0)) + (1))) (nI_add ((ceC (i) (k)) + (0)) (1)) ?_
      refine k_laldP 72 73 C dX4_trace_72 rfl ‹_› (f := f) (hf) (c0 := ((ceC (i) (k)) + (0)) + (1)) (by first | omega | (simp only [hdC, ceC]; omega)) ?_
      refine k_callVV 73 76 C [_, _, _] [] dX4_trace_73 rfl (ct_X4_aim (by decide) hM (hf)) mi_X4_aim ml_X4_127 im_X4_aim se_X4_aim ci_X4 (IsMdl.o ‹_›) rfl rfl ⟨Nat.le_of_ble_eq_true rfl, Nat.le_of_ble_eq_true rfl⟩ (Nat.le_of_ble_eq_true rfl) (Nat.zero_le _) (Nat.zero_le _) (fun V73 p73 => ?_)
      obtain ⟨g73, t73, u73⟩ := tl_all p73 (hf)
      refine k_iload 76 78 C dX4_trace_76 rfl 1 rfl ?_
      refine k_if_eq 78 117 81 C dX4_trace_78 (by decide) rfl (fun h78 => ?_) (fun h78 => ?_)
      · exact absurd h78 (by decide)
      · refine k_aload_n 81 82 C dX4_trace_81 rfl 4 rfl ?_
        refine k_aload_n 82 83 C dX4_trace_82 rfl 4 rfl ?_
        refine k_getF 83 86 C dX4_trace_83 rfl ci_X4 0 fl_X4_7 (IsMdl.o ‹_›) (by decide) (IsMdl.f0 ‹_›) rfl ?_
        refine k_iload 86 88 C dX4_trace_86 rfl 2 rfl ?_
        refine k_bipush 88 90 C dX4_trace_88 rfl (v := 7) rfl ?_
        refine k_isub 90 91 C dX4_trace_90 rfl  ?_
        refine k_rwI (y := nI ((ceC (w) (k)) - (7))) (pk_sub (a := ceC (w) (k)) (b := 7) (by first | omega | (simp only [hdC, ceC]; omega))) ?_
        refine k_iconst 91 92 C dX4_trace_91 rfl (v := 2) rfl ?_
        refine k_iload 92 94 C dX4_trace_92 rfl 0 rfl ?_
        refine k_imul 94 95 C dX4_trace_94 rfl  ?_
        refine k_rwI (y := nI (0)) (pk_mul (2) (0)) ?_
        refine k_iadd 95 96 C dX4_trace_95 rfl  ?_
        refine k_rwI (y := nI (((ceC (w) (k)) - (7)) + (0))) (nI_add ((ceC (w) (k)) - (7)) (0)) ?_
        refine k_laldP 96 97 C dX4_trace_96 rfl ‹_› (f := f) (g73.2.2.2) (c0 := ((ceC (w) (k)) - (7)) + (0)) (by first | omega | (simp only [hdC, ceC]; omega)) ?_
        refine k_aload_n 97 98 C dX4_trace_97 rfl 4 rfl ?_
        refine k_getF 98 101 C dX4_trace_98 rfl ci_X4 0 fl_X4_7 (IsMdl.o ‹_›) (by decide) (IsMdl.f0 ‹_›) rfl ?_
        refine k_iload 101 103 C dX4_trace_101 rfl 2 rfl ?_
        refine k_bipush 103 105 C dX4_trace_103 rfl (v := 7) rfl ?_
        refine k_isub 105 106 C dX4_trace_105 rfl  ?_
        refine k_rwI (y := nI ((ceC (w) (k)) - (7))) (pk_sub (a := ceC (w) (k)) (b := 7) (by first | omega | (simp only [hdC, ceC]; omega))) ?_
        refine k_iconst 106 107 C dX4_trace_106 rfl (v := 2) rfl ?_
        refine k_iload 107 109 C dX4_trace_107 rfl 0 rfl ?_
        refine k_imul 109 110 C dX4_trace_109 rfl  ?_
        refine k_rwI (y := nI (0)) (pk_mul (2) (0)) ?_
        refine k_iadd 110 111 C dX4_trace_110 rfl  ?_
        refine k_rwI (y := nI (((ceC (w) (k)) - (7)) + (0))) (nI_add ((ceC (w) (k)) - (7)) (0)) ?_
        refine k_iconst 111 112 C dX4_trace_111 rfl (v := 1) rfl ?_
        refine k_iadd 112 113 C dX4_trace_112 rfl  ?_
        refine k_rwI (y := nI ((((ceC (w) (k)) - (7)) + (0)) + (1))) (nI_add (((ceC (w) (k)) - (7)) + (0)) (1)) ?_
        refine k_laldP 113 114 C dX4_trace_113 rfl ‹_› (f := f) (g73.2.2.2) (c0 := (((ceC (w) (k)) - (7)) + (0)) + (1)) (by first | omega | (simp only [hdC, ceC]; omega)) ?_
        refine k_callVV 114 117 C [_, _] [] dX4_trace_114 rfl (ct_X4_follow (t73) (u73) zF0.1 zF0.2 hM (g73.2.2.2)) mi_X4_follow ml_X4_131 im_X4_follow se_X4_follow ci_X4 (IsMdl.o ‹_›) rfl rfl ⟨Nat.le_of_ble_eq_true rfl, Nat.le_of_ble_eq_true rfl⟩ (Nat.le_of_ble_eq_true rfl) (Nat.zero_le _) (Nat.zero_le _) (fun V114 p114 => ?_)
        obtain ⟨g114, t114, u114⟩ := tl_all p114 (g73.2.2.2)
        refine k_aload_n 117 118 C dX4_trace_117 rfl 4 rfl ?_
        refine k_iload 118 120 C dX4_trace_118 rfl 2 rfl ?_
        refine k_iconst 120 121 C dX4_trace_120 rfl (v := 2) rfl ?_
        refine k_iload 121 123 C dX4_trace_121 rfl 0 rfl ?_
        refine k_imul 123 124 C dX4_trace_123 rfl  ?_
        refine k_rwI (y := nI (0)) (pk_mul (2) (0)) ?_
        refine k_iadd 124 125 C dX4_trace_124 rfl  ?_
        refine k_rwI (y := nI ((ceC (w) (k)) + (0))) (nI_add (ceC (w) (k)) (0)) ?_
        refine k_callVV 125 128 C [_] [] dX4_trace_125 rfl (ct_X4_put (k := (ceC (w) (k)) + (0)) (by first | omega | (simp only [hdC, ceC]; omega)) t114 u114 hM) mi_X4_put ml_X4_134 im_X4_put se_X4_put ci_X4 (IsMdl.o ‹_›) rfl rfl ⟨Nat.le_of_ble_eq_true rfl, Nat.le_of_ble_eq_true rfl⟩ (Nat.le_of_ble_eq_true rfl) (Nat.zero_le _) (Nat.zero_le _) (fun V125 p125 => ?_)
        have g125 := put_all p125 (g114.2.2.2)
        have zS0 : Pg V _ M (mtS true f i w k 0) := (((Pg.rf hf).trans g73).trans g114).trans g125
        refine k_iinc 128 131 C [(7, _), (6, _), (5, _), (4, _), (0, _), (1, _), (2, _), (3, _)] (nI (1)) dX4_trace_128 rfl 0 rfl (nI_1 (0)) (by decide) rfl ?_
        refine k_goto 131 38 C dX4_trace_131 (by decide) ?_
        refine k_iload 38 40 C dX4_trace_38 rfl 0 rfl ?_
        refine k_iconst 40 41 C dX4_trace_40 rfl (v := 2) rfl ?_
        refine k_icmp_ge 41 134 44 C dX4_trace_41 (by decide) rfl (fun h41 => ?_) (fun h41 => ?_)
        · exact absurd h41 (by decide)
        · refine k_aload_n 44 45 C dX4_trace_44 rfl 4 rfl ?_
          refine k_iload 45 47 C dX4_trace_45 rfl 0 rfl ?_
          refine k_aload_n 47 48 C dX4_trace_47 rfl 4 rfl ?_
          refine k_getF 48 51 C dX4_trace_48 rfl ci_X4 0 fl_X4_7 (IsMdl.o ‹_›) (by decide) (IsMdl.f0 ‹_›) rfl ?_
          refine k_iload 51 53 C dX4_trace_51 rfl 3 rfl ?_
          refine k_iconst 53 54 C dX4_trace_53 rfl (v := 2) rfl ?_
          refine k_iload 54 56 C dX4_trace_54 rfl 0 rfl ?_
          refine k_imul 56 57 C dX4_trace_56 rfl  ?_
          refine k_rwI (y := nI (2)) (pk_mul (2) (1)) ?_
          refine k_iadd 57 58 C dX4_trace_57 rfl  ?_
          refine k_rwI (y := nI ((ceC (i) (k)) + (2))) (nI_add (ceC (i) (k)) (2)) ?_
          refine k_laldP 58 59 C dX4_trace_58 rfl ‹_› (f := mtS true f i w k 0) (zS0.2.2.2) (c0 := (ceC (i) (k)) + (2)) (by first | omega | (simp only [hdC, ceC]; omega)) ?_
          refine k_aload_n 59 60 C dX4_trace_59 rfl 4 rfl ?_
          refine k_getF 60 63 C dX4_trace_60 rfl ci_X4 0 fl_X4_7 (IsMdl.o ‹_›) (by decide) (IsMdl.f0 ‹_›) rfl ?_
          refine k_iload 63 65 C dX4_trace_63 rfl 3 rfl ?_
          refine k_iconst 65 66 C dX4_trace_65 rfl (v := 2) rfl ?_
          refine k_iload 66 68 C dX4_trace_66 rfl 0 rfl ?_
          refine k_imul 68 69 C dX4_trace_68 rfl  ?_
          refine k_rwI (y := nI (2)) (pk_mul (2) (1)) ?_
          refine k_iadd 69 70 C dX4_trace_69 rfl  ?_
          refine k_rwI (y := nI ((ceC (i) (k)) + (2))) (nI_add (ceC (i) (k)) (2)) ?_
          refine k_iconst 70 71 C dX4_trace_70 rfl (v := 1) rfl ?_
          refine k_iadd 71 72 C dX4_trace_71 rfl  ?_
          refine k_rwI (y := nI (((ceC (i) (k)) + (2)) + (1))) (nI_add ((ceC (i) (k)) + (2)) (1)) ?_
          refine k_laldP 72 73 C dX4_trace_72 rfl ‹_› (f := mtS true f i w k 0) (zS0.2.2.2) (c0 := ((ceC (i) (k)) + (2)) + (1)) (by first | omega | (simp only [hdC, ceC]; omega)) ?_
          refine k_callVV 73 76 C [_, _, _] [] dX4_trace_73 rfl (ct_X4_aim (by decide) hM (zS0.2.2.2)) mi_X4_aim ml_X4_127 im_X4_aim se_X4_aim ci_X4 (IsMdl.o ‹_›) rfl rfl ⟨Nat.le_of_ble_eq_true rfl, Nat.le_of_ble_eq_true rfl⟩ (Nat.le_of_ble_eq_true rfl) (Nat.zero_le _) (Nat.zero_le _) (fun V73 p73 => ?_)
          obtain ⟨g73, t73, u73⟩ := tl_all p73 (zS0.2.2.2)
          refine k_iload 76 78 C dX4_trace_76 rfl 1 rfl ?_
          refine k_if_eq 78 117 81 C dX4_trace_78 (by decide) rfl (fun h78 => ?_) (fun h78 => ?_)
          · exact absurd h78 (by decide)
          · refine k_aload_n 81 82 C dX4_trace_81 rfl 4 rfl ?_
            refine k_aload_n 82 83 C dX4_trace_82 rfl 4 rfl ?_
            refine k_getF 83 86 C dX4_trace_83 rfl ci_X4 0 fl_X4_7 (IsMdl.o ‹_›) (by decide) (IsMdl.f0 ‹_›) rfl ?_
            refine k_iload 86 88 C dX4_trace_86 rfl 2 rfl ?_
            refine k_bipush 88 90 C dX4_trace_88 rfl (v := 7) rfl ?_
            refine k_isub 90 91 C dX4_trace_90 rfl  ?_
            refine k_rwI (y := nI ((ceC (w) (k)) - (7))) (pk_sub (a := ceC (w) (k)) (b := 7) (by first | omega | (simp only [hdC, ceC]; omega))) ?_
            refine k_iconst 91 92 C dX4_trace_91 rfl (v := 2) rfl ?_
            refine k_iload 92 94 C dX4_trace_92 rfl 0 rfl ?_
            refine k_imul 94 95 C dX4_trace_94 rfl  ?_
            refine k_rwI (y := nI (2)) (pk_mul (2) (1)) ?_
            refine k_iadd 95 96 C dX4_trace_95 rfl  ?_
            refine k_rwI (y := nI (((ceC (w) (k)) - (7)) + (2))) (nI_add ((ceC (w) (k)) - (7)) (2)) ?_
            refine k_laldP 96 97 C dX4_trace_96 rfl ‹_› (f := mtS true f i w k 0) (g73.2.2.2) (c0 := ((ceC (w) (k)) - (7)) + (2)) (by first | omega | (simp only [hdC, ceC]; omega)) ?_
            refine k_aload_n 97 98 C dX4_trace_97 rfl 4 rfl ?_
            refine k_getF 98 101 C dX4_trace_98 rfl ci_X4 0 fl_X4_7 (IsMdl.o ‹_›) (by decide) (IsMdl.f0 ‹_›) rfl ?_
            refine k_iload 101 103 C dX4_trace_101 rfl 2 rfl ?_
            refine k_bipush 103 105 C dX4_trace_103 rfl (v := 7) rfl ?_
            refine k_isub 105 106 C dX4_trace_105 rfl  ?_
            refine k_rwI (y := nI ((ceC (w) (k)) - (7))) (pk_sub (a := ceC (w) (k)) (b := 7) (by first | omega | (simp only [hdC, ceC]; omega))) ?_
            refine k_iconst 106 107 C dX4_trace_106 rfl (v := 2) rfl ?_
            refine k_iload 107 109 C dX4_trace_107 rfl 0 rfl ?_
            refine k_imul 109 110 C dX4_trace_109 rfl  ?_
            refine k_rwI (y := nI (2)) (pk_mul (2) (1)) ?_
            refine k_iadd 110 111 C dX4_trace_110 rfl  ?_
            refine k_rwI (y := nI (((ceC (w) (k)) - (7)) + (2))) (nI_add ((ceC (w) (k)) - (7)) (2)) ?_
            refine k_iconst 111 112 C dX4_trace_111 rfl (v := 1) rfl ?_
            refine k_iadd 112 113 C dX4_trace_112 rfl  ?_
            refine k_rwI (y := nI ((((ceC (w) (k)) - (7)) + (2)) + (1))) (nI_add (((ceC (w) (k)) - (7)) + (2)) (1)) ?_
            refine k_laldP 113 114 C dX4_trace_113 rfl ‹_› (f := mtS true f i w k 0) (g73.2.2.2) (c0 := (((ceC (w) (k)) - (7)) + (2)) + (1)) (by first | omega | (simp only [hdC, ceC]; omega)) ?_
            refine k_callVV 114 117 C [_, _] [] dX4_trace_114 rfl (ct_X4_follow (t73) (u73) zF1.1 zF1.2 hM (g73.2.2.2)) mi_X4_follow ml_X4_131 im_X4_follow se_X4_follow ci_X4 (IsMdl.o ‹_›) rfl rfl ⟨Nat.le_of_ble_eq_true rfl, Nat.le_of_ble_eq_true rfl⟩ (Nat.le_of_ble_eq_true rfl) (Nat.zero_le _) (Nat.zero_le _) (fun V114 p114 => ?_)
            obtain ⟨g114, t114, u114⟩ := tl_all p114 (g73.2.2.2)
            refine k_aload_n 117 118 C dX4_trace_117 rfl 4 rfl ?_
            refine k_iload 118 120 C dX4_trace_118 rfl 2 rfl ?_
            refine k_iconst 120 121 C dX4_trace_120 rfl (v := 2) rfl ?_
            refine k_iload 121 123 C dX4_trace_121 rfl 0 rfl ?_
            refine k_imul 123 124 C dX4_trace_123 rfl  ?_
            refine k_rwI (y := nI (2)) (pk_mul (2) (1)) ?_
            refine k_iadd 124 125 C dX4_trace_124 rfl  ?_
            refine k_rwI (y := nI ((ceC (w) (k)) + (2))) (nI_add (ceC (w) (k)) (2)) ?_
            refine k_callVV 125 128 C [_] [] dX4_trace_125 rfl (ct_X4_put (k := (ceC (w) (k)) + (2)) (by first | omega | (simp only [hdC, ceC]; omega)) t114 u114 hM) mi_X4_put ml_X4_134 im_X4_put se_X4_put ci_X4 (IsMdl.o ‹_›) rfl rfl ⟨Nat.le_of_ble_eq_true rfl, Nat.le_of_ble_eq_true rfl⟩ (Nat.le_of_ble_eq_true rfl) (Nat.zero_le _) (Nat.zero_le _) (fun V125 p125 => ?_)
            have g125 := put_all p125 (g114.2.2.2)
            have zS1 : Pg V _ M (mtT true f i w k) := (((zS0).trans g73).trans g114).trans g125
            refine k_iinc 128 131 C [(7, _), (6, _), (5, _), (4, _), (0, _), (1, _), (2, _), (3, _)] (nI (2)) dX4_trace_128 rfl 0 rfl (nI_1 (1)) (by decide) rfl ?_
            refine k_goto 131 38 C dX4_trace_131 (by decide) ?_
            refine k_iload 38 40 C dX4_trace_38 rfl 0 rfl ?_
            refine k_iconst 40 41 C dX4_trace_40 rfl (v := 2) rfl ?_
            refine k_icmp_ge 41 134 44 C dX4_trace_41 (by decide) rfl (fun h41 => ?_) (fun h41 => ?_)
            · refine k_aload_n 134 135 C dX4_trace_134 rfl 4 rfl ?_
              refine k_getF 135 138 C dX4_trace_135 rfl ci_X4 0 fl_X4_7 (IsMdl.o ‹_›) (by decide) (IsMdl.f0 ‹_›) rfl ?_
              refine k_iload 138 140 C dX4_trace_138 rfl 2 rfl ?_
              refine k_iconst 140 141 C dX4_trace_140 rfl (v := 4) rfl ?_
              refine k_iadd 141 142 C dX4_trace_141 rfl  ?_
              refine k_rwI (y := nI ((ceC (w) (k)) + (4))) (nI_add (ceC (w) (k)) (4)) ?_
              refine k_aload_n 142 143 C dX4_trace_142 rfl 4 rfl ?_
              refine k_getF 143 146 C dX4_trace_143 rfl ci_X4 0 fl_X4_7 (IsMdl.o ‹_›) (by decide) (IsMdl.f0 ‹_›) rfl ?_
              refine k_iload 146 148 C dX4_trace_146 rfl 3 rfl ?_
              refine k_iconst 148 149 C dX4_trace_148 rfl (v := 4) rfl ?_
              refine k_iadd 149 150 C dX4_trace_149 rfl  ?_
              refine k_rwI (y := nI ((ceC (i) (k)) + (4))) (nI_add (ceC (i) (k)) (4)) ?_
              refine k_laldP 150 151 C dX4_trace_150 rfl ‹_› (f := mtT true f i w k) (zS1.2.2.2) (c0 := (ceC (i) (k)) + (4)) (by first | omega | (simp only [hdC, ceC]; omega)) ?_
              refine k_lastP 151 152 C dX4_trace_151 rfl ‹_› (f := mtT true f i w k) (zS1.2.2.2) (c0 := (ceC (w) (k)) + (4)) (by first | omega | (simp only [hdC, ceC]; omega)) (fun V151 p151 => ?_)
              refine k_vret 152 C dX4_trace_152 rfl ?_
              unfold mtF
              rw [zb]
              exact (zS1).trans p151
            · exact absurd h41 (by decide)
