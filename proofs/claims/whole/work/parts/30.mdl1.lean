/-! the reference: its page as a function -/
def sz (x : Int64) : Int64 := if x < 0 then -x else x
theorem rem_lt {p q : Int64} (h : ¬ q = 0) : (p - p / q * q).toInt.natAbs < q.toInt.natAbs := by
  have h0 : q.toInt ≠ 0 := fun z => h (Int64.toInt_inj.mp (by rw [z]; rfl))
  rw [Jvm.Kit.i64_rem]
  have h1 := Int.natAbs_tmod p.toInt q.toInt
  rw [h1]
  exact Nat.mod_lt _ (Int.natAbs_pos.mpr h0)
def euF (p q : Int64) : Int64 := if h : q = 0 then p else euF q (p - p / q * q)
termination_by q.toInt.natAbs
decreasing_by exact rem_lt h
theorem euF_0 (p : Int64) : euF p 0 = p := by rw [euF]; simp
theorem euF_s {p q : Int64} (h : ¬ q = 0) : euF p q = euF q (p - p / q * q) := by rw [euF]; simp [h]
def dvs (a b : Int64) : Int64 := euF (sz a) (sz b)
def rdN (n d : Int64) : Int64 := if dvs n d = 0 then 0 else n / dvs n d
def rdD (n d : Int64) : Int64 := if dvs n d = 0 then 1 else d / dvs n d
def plN (n d t n2 d2 : Int64) : Int64 := n * (d2 / dvs d d2) + t * n2 * (d / dvs d d2)
def plD (d d2 : Int64) : Int64 := d / dvs d d2 * d2
/-- the page: 915 longs -/
def PQ (V : gV) (M : Nat) (f : Nat → Int64) : Prop := ∀ j, j < 915 → V.2.1 (M + 1) j = f j
/-- page, top and low changed, nothing else -/
def Pg (V V' : gV) (M : Nat) (f' : Nat → Int64) : Prop := V'.1 = V.1 ∧ (∀ b, b ≠ M → b ≠ M + 1 → V'.2.1 b = V.2.1 b) ∧ V'.2.2 = V.2.2 ∧ PQ V' M f'
theorem Pg.rf {V : gV} {M : Nat} {f : Nat → Int64} (h : PQ V M f) : Pg V V M f := ⟨rfl, fun _ _ _ => rfl, rfl, h⟩
theorem Pg.trans {V V1 V2 : gV} {M : Nat} {f1 f2 : Nat → Int64} (h : Pg V V1 M f1) (h2 : Pg V1 V2 M f2) : Pg V V2 M f2 := ⟨h2.1.trans h.1, fun b x y => (h2.2.1 b x y).trans (h.2.1 b x y), h2.2.2.1.trans h.2.2.1, h2.2.2.2⟩
theorem Pg.off {V V' : gV} {M : Nat} {f : Nat → Int64} (h : Pg V V' M f) : Off V V' M (M + 2) := fun b hb => ⟨by rw [h.1], h.2.1 b (by omega) (by omega), by rw [h.2.2.1]⟩
/-- top and low -/
def tl (V : gV) (M : Nat) (x y : Int64) : gV := wL (wL V M 6 x) M 7 y
theorem tl6 {V : gV} {M : Nat} {x y : Int64} : (tl V M x y).2.1 M 6 = x := by simp [tl, wL, vp_updL]
theorem tl7 {V : gV} {M : Nat} {x y : Int64} : (tl V M x y).2.1 M 7 = y := by simp [tl, wL, vp_updL]
theorem tl_pg {V : gV} {M : Nat} {x y : Int64} {f : Nat → Int64} (h : PQ V M f) : Pg V (tl V M x y) M f := ⟨rfl, fun b hb _ => by simp [tl, wL, hb], rfl, fun j hj => by simp [tl, wL]; exact h j hj⟩
theorem wP_pg {V : gV} {M c : Nat} {x : Int64} {f : Nat → Int64} (h : PQ V M f) : Pg V (wL V (M + 1) c x) M (va_up f c x) := ⟨rfl, fun b _ hb => (wL_off b hb).2.1, rfl, fun j hj => by
  by_cases e : j = c
  · subst e; simp [wL, vp_updL, va_up]
  · simp only [wL, vp_updL, va_up, if_true, e, if_false]; exact h j hj⟩
theorem wP_tl {V : gV} {M c : Nat} {x : Int64} (k : Nat) : (wL V (M + 1) c x).2.1 M k = V.2.1 M k := by rw [(wL_off M (by omega)).2.1]
def hdC (d k : Nat) : Nat := 15 + 150 * d + k
def ceC (d p : Nat) : Nat := 25 + 150 * d + 7 * p
theorem n1k {a b : Nat} (ha : a < 4000) (hb : b < 4000) : nI a ≤ nI b ↔ a ≤ b := nI_leI (by omega) (by omega)
set_option maxHeartbeats 4000000 in
set_option maxRecDepth 100000 in
theorem ct_X4_size {E : gE} {T : gT} {l : Launch} {V : gV} {x : Int64} : CtL E T l yX4_size (gw yX4_size cX4_size 2 (some .long)) { frames := 0, cells := 0, slots := 0, locals := 0 } [.long x] V (fun (r : Int64) (V' : gV) => V' = V ∧ r = sz x) := by
  refine ctL_of (L := [(0, .long x)]) (by decide) rfl (Nat.le_of_ble_eq_true rfl) rfl (fun p e s m args below meth c C => ?_)
  refine k_lload_n 0 1 C dX4_size_0 rfl 0 rfl ?_
  refine k_lconst 1 2 C dX4_size_1 rfl (v := 0) rfl ?_
  refine k_lcmp_ge 2 3 11 6 C dX4_size_2 rfl dX4_size_3 (by decide) rfl (fun h3 => ?_) (fun h3 => ?_)
  · refine k_lload_n 11 12 C dX4_size_11 rfl 0 rfl ?_
    refine k_lret 12 C dX4_size_12 rfl ?_
    exact ⟨rfl, by simp only [sz]; first | rw [if_neg (i64_not_lt.mpr h3)] | rw [if_pos (i64_not_le.mp h3)]⟩
  · refine k_lload_n 6 7 C dX4_size_6 rfl 0 rfl ?_
    refine k_lneg 7 8 C dX4_size_7 rfl  ?_
    refine k_goto 8 12 C dX4_size_8 (by decide) ?_
    refine k_lret 12 C dX4_size_12 rfl ?_
    exact ⟨rfl, by simp only [sz]; first | rw [if_neg (i64_not_lt.mpr h3)] | rw [if_pos (i64_not_le.mp h3)]⟩
set_option maxHeartbeats 4000000 in
set_option maxRecDepth 100000 in
theorem ct_X4_divisor {E : gE} {T : gT} {l : Launch} {V : gV} {a b : Int64} : CtL E T l yX4_divisor (gw yX4_divisor cX4_divisor 10 (some .long)) { frames := 1, cells := 0, slots := 0, locals := 21 } [.long a, .long b] V (fun (r : Int64) (V' : gV) => V' = V ∧ r = dvs a b) := by
  refine ctL_of (L := [(0, .long a), (2, .long b)]) (by decide) rfl (Nat.le_of_ble_eq_true rfl) rfl (fun p e s m args below meth c C => ?_)
  have loop12 : ∀ (f : Nat) (x y : Int64), y.toInt.natAbs = f → (euF x y = dvs a b) → KW E T V p l e { frames := 1, cells := 0, slots := 0, locals := 21 } s m args below meth c 10 0 0 (MQ below (va_Ql (fun (r : Int64) (V' : gV) => V' = V ∧ r = dvs a b) (RepS E T) (gA E)) args s 0 0 (gA E)) 12 [(6, .long y), (4, .long x), (0, .long a), (2, .long b)] [] := by
    intro f
    induction f using Nat.strongRecOn with
    | _ f ih =>
    intro x y hf hg
    refine k_lload 12 14 C dX4_divisor_12 rfl 0 rfl ?_
    refine k_lconst 14 15 C dX4_divisor_14 rfl (v := 0) rfl ?_
    refine k_lcmp_eq 15 16 37 19 C dX4_divisor_15 rfl dX4_divisor_16 (by decide) rfl (fun h16 => ?_) (fun h16 => ?_)
    · obtain rfl : y = 0 := h16
      refine k_lload 37 39 C dX4_divisor_37 rfl 1 rfl ?_
      refine k_lret 39 C dX4_divisor_39 rfl ?_
      exact ⟨rfl, (euF_0 x).symm.trans hg⟩
    · refine k_lload 19 21 C dX4_divisor_19 rfl 1 rfl ?_
      refine k_lload 21 23 C dX4_divisor_21 rfl 0 rfl ?_
      refine k_lrem 23 24 C dX4_divisor_23 rfl h16 ?_
      refine k_lstore 24 26 C [(8, _), (6, _), (4, _), (0, _), (2, _)] dX4_divisor_24 rfl (by decide) rfl ?_
      refine k_lload 26 28 C dX4_divisor_26 rfl 1 rfl ?_
      refine k_lstore 28 30 C [(4, _), (8, _), (6, _), (0, _), (2, _)] dX4_divisor_28 rfl (by decide) rfl ?_
      refine k_lload 30 32 C dX4_divisor_30 rfl 1 rfl ?_
      refine k_lstore 32 34 C [(6, _), (4, _), (8, _), (0, _), (2, _)] dX4_divisor_32 rfl (by decide) rfl ?_
      refine k_goto 34 12 C dX4_divisor_34 (by decide) ?_
      refine k_perm [0, 1, 3, 4] (L' := [(6, _), (4, _), (0, _), (2, _)]) rfl ?_
      exact ih _ (by rw [← hf]; exact rem_lt h16) _ _ rfl ((euF_s h16).symm.trans hg)
  refine k_lload_n 0 1 C dX4_divisor_0 rfl 0 rfl ?_
  refine k_callSL 1 4 C [_] [] dX4_divisor_1 rfl ct_X4_size mi_X4_size ml_X4_30 st_X4_size rfl rfl ⟨Nat.le_of_ble_eq_true rfl, Nat.le_of_ble_eq_true rfl⟩ (Nat.le_of_ble_eq_true rfl) (Nat.zero_le _) (Nat.zero_le _) (fun r1 V1 p1 => ?_)
  obtain ⟨rfl, rfl⟩ := And.intro p1.1.symm p1.2
  refine k_lstore 4 6 C [(4, _), (0, _), (2, _)] dX4_divisor_4 rfl (by decide) rfl ?_
  refine k_lload_n 6 7 C dX4_divisor_6 rfl 2 rfl ?_
  refine k_callSL 7 10 C [_] [] dX4_divisor_7 rfl ct_X4_size mi_X4_size ml_X4_30 st_X4_size rfl rfl ⟨Nat.le_of_ble_eq_true rfl, Nat.le_of_ble_eq_true rfl⟩ (Nat.le_of_ble_eq_true rfl) (Nat.zero_le _) (Nat.zero_le _) (fun r7 V7 p7 => ?_)
  obtain ⟨rfl, rfl⟩ := And.intro p7.1.symm p7.2
  refine k_lstore 10 12 C [(6, _), (4, _), (0, _), (2, _)] dX4_divisor_10 rfl (by decide) rfl ?_
  exact loop12 _ (sz a) (sz b) rfl rfl
set_option maxHeartbeats 4000000 in
set_option maxRecDepth 100000 in
theorem ct_X4_head {E : gE} {T : gT} {l : Launch} {V : gV} {d k : Nat} : CtI E T l yX4_head (gw yX4_head cX4_head 2 (some .int)) { frames := 0, cells := 0, slots := 0, locals := 0 } [.int (nI d), .int (nI k)] V (fun (r : Int32) (V' : gV) => V' = V ∧ r = nI (hdC d k)) := by
  refine ctI_of (L := [(0, .int (nI d)), (1, .int (nI k))]) (by decide) rfl (Nat.le_of_ble_eq_true rfl) rfl (fun p e s m args below meth c C => ?_)
  refine k_bipush 0 2 C dX4_head_0 rfl (v := 15) rfl ?_
  refine k_sipush 2 5 C dX4_head_2 rfl (v := 150) rfl ?_
  refine k_iload_n 5 6 C dX4_head_5 rfl 0 rfl ?_
  refine k_imul 6 7 C dX4_head_6 rfl  ?_
  refine k_iadd 7 8 C dX4_head_7 rfl  ?_
  refine k_iload_n 8 9 C dX4_head_8 rfl 1 rfl ?_
  refine k_iadd 9 10 C dX4_head_9 rfl  ?_
  refine k_iret 10 C dX4_head_10 rfl ?_
  exact ⟨rfl, by show nI 15 + nI 150 * nI d + nI k = _; rw [pk_mul, nI_add, nI_add]; rfl⟩
set_option maxHeartbeats 4000000 in
set_option maxRecDepth 100000 in
theorem ct_X4_cellOf {E : gE} {T : gT} {l : Launch} {V : gV} {d k : Nat} : CtI E T l yX4_cellOf (gw yX4_cellOf cX4_cellOf 2 (some .int)) { frames := 0, cells := 0, slots := 0, locals := 0 } [.int (nI d), .int (nI k)] V (fun (r : Int32) (V' : gV) => V' = V ∧ r = nI (ceC d k)) := by
  refine ctI_of (L := [(0, .int (nI d)), (1, .int (nI k))]) (by decide) rfl (Nat.le_of_ble_eq_true rfl) rfl (fun p e s m args below meth c C => ?_)
  refine k_bipush 0 2 C dX4_cellOf_0 rfl (v := 15) rfl ?_
  refine k_sipush 2 5 C dX4_cellOf_2 rfl (v := 150) rfl ?_
  refine k_iload_n 5 6 C dX4_cellOf_5 rfl 0 rfl ?_
  refine k_imul 6 7 C dX4_cellOf_6 rfl  ?_
  refine k_iadd 7 8 C dX4_cellOf_7 rfl  ?_
  refine k_bipush 8 10 C dX4_cellOf_8 rfl (v := 10) rfl ?_
  refine k_iadd 10 11 C dX4_cellOf_10 rfl  ?_
  refine k_bipush 11 13 C dX4_cellOf_11 rfl (v := 7) rfl ?_
  refine k_iload_n 13 14 C dX4_cellOf_13 rfl 1 rfl ?_
  refine k_imul 14 15 C dX4_cellOf_14 rfl  ?_
  refine k_iadd 15 16 C dX4_cellOf_15 rfl  ?_
  refine k_iret 16 C dX4_cellOf_16 rfl ?_
  exact ⟨rfl, by show nI 15 + nI 150 * nI d + nI 10 + nI 7 * nI k = _; rw [pk_mul, pk_mul, nI_add, nI_add, nI_add]; congr 1; unfold ceC; omega⟩
set_option maxHeartbeats 4000000 in
set_option maxRecDepth 100000 in
theorem ct_X4_of {E : gE} {T : gT} {l : Launch} {V : gV} {k : Nat} (hk : k < 915) {M : Nat} {f : Nat → Int64} (hM : IsMdl T M) (hf : PQ V M f) : CtI E T l yX4_of (gw yX4_of cX4_of 2 (some .int)) { frames := 0, cells := 0, slots := 0, locals := 0 } [.ref M, .int (nI k)] V (fun (r : Int32) (V' : gV) => V' = V ∧ r = (f k).toInt32) := by
  refine ctI_of (L := [(0, .ref M), (1, .int (nI k))]) (by decide) rfl (Nat.le_of_ble_eq_true rfl) rfl (fun p e s m args below meth c C => ?_)
  refine k_aload_n 0 1 C dX4_of_0 rfl 0 rfl ?_
  refine k_getF 1 4 C dX4_of_1 rfl ci_X4 0 fl_X4_7 (IsMdl.o ‹_›) (by decide) (IsMdl.f0 ‹_›) rfl ?_
  refine k_iload_n 4 5 C dX4_of_4 rfl 1 rfl ?_
  refine k_lald 5 6 C dX4_of_5 rfl (IsMdl.a0 ‹_›) (vp_in_nI (show k < 915 by omega) (by decide)) ?_
  rw [nI_clamp (show k < 2 ^ 31 by omega)]
  refine k_rwL (y := f (k)) (hf _ (by omega)) ?_
  refine k_l2i 6 7 C dX4_of_6 rfl  ?_
  refine k_iret 7 C dX4_of_7 rfl ?_
  exact ⟨rfl, rfl⟩
set_option maxHeartbeats 4000000 in
set_option maxRecDepth 100000 in
theorem ct_X4_reduce {E : gE} {T : gT} {l : Launch} {V : gV} {x y : Int64} {M : Nat} (hM : IsMdl T M) : CtV E T l yX4_reduce (gw yX4_reduce cX4_reduce 7 none) { frames := 2, cells := 0, slots := 0, locals := 50 } [.ref M, .long x, .long y] V (fun (V' : gV) => V' = tl V M (rdN x y) (rdD x y)) := by
  refine ctV_of (L := [(0, .ref M), (1, .long x), (3, .long y)]) (by decide) rfl (Nat.le_of_ble_eq_true rfl) rfl (fun p e s m args below meth c C => ?_)
  refine k_lload_n 0 1 C dX4_reduce_0 rfl 1 rfl ?_
  refine k_lload_n 1 2 C dX4_reduce_1 rfl 2 rfl ?_
  refine k_callSL 2 5 C [_, _] [] dX4_reduce_2 rfl ct_X4_divisor mi_X4_divisor ml_X4_42 st_X4_divisor rfl rfl ⟨Nat.le_of_ble_eq_true rfl, Nat.le_of_ble_eq_true rfl⟩ (Nat.le_of_ble_eq_true rfl) (Nat.zero_le _) (Nat.zero_le _) (fun r2 V2 p2 => ?_)
  obtain ⟨rfl, rfl⟩ := And.intro p2.1.symm p2.2
  refine k_lstore 5 7 C [(5, _), (0, _), (1, _), (3, _)] dX4_reduce_5 rfl (by decide) rfl ?_
  refine k_aload_n 7 8 C dX4_reduce_7 rfl 1 rfl ?_
  refine k_lload 8 10 C dX4_reduce_8 rfl 0 rfl ?_
  refine k_lconst 10 11 C dX4_reduce_10 rfl (v := 0) rfl ?_
  refine k_lcmp_ne 11 12 19 15 C dX4_reduce_11 rfl dX4_reduce_12 (by decide) rfl (fun h12 => ?_) (fun h12 => ?_)
  · refine k_lload_n 19 20 C dX4_reduce_19 rfl 2 rfl ?_
    refine k_lload 20 22 C dX4_reduce_20 rfl 0 rfl ?_
    refine k_ldiv 22 23 C dX4_reduce_22 rfl h12 ?_
    refine k_put 23 26 C dX4_reduce_23 rfl ci_X4 6 fl_X4_46 (IsMdl.o ‹_›) (by decide) rfl rfl rfl wL_off (ps_4_6 _ _ _ _) ?_
    refine k_aload_n 26 27 C dX4_reduce_26 rfl 1 rfl ?_
    refine k_lload 27 29 C dX4_reduce_27 rfl 0 rfl ?_
    refine k_lconst 29 30 C dX4_reduce_29 rfl (v := 0) rfl ?_
    refine k_lcmp_ne 30 31 38 34 C dX4_reduce_30 rfl dX4_reduce_31 (by decide) rfl (fun h31 => ?_) (fun h31 => ?_)
    · refine k_lload_n 38 39 C dX4_reduce_38 rfl 3 rfl ?_
      refine k_lload 39 41 C dX4_reduce_39 rfl 0 rfl ?_
      refine k_ldiv 41 42 C dX4_reduce_41 rfl h31 ?_
      refine k_put 42 45 C dX4_reduce_42 rfl ci_X4 7 fl_X4_50 (IsMdl.o ‹_›) (by decide) rfl rfl rfl wL_off (ps_4_7 _ _ _ _) ?_
      refine k_vret 45 C dX4_reduce_45 rfl ?_
      unfold tl rdN rdD
      first
        | (rw [if_pos h12, if_pos h31])
        | (rw [if_neg h12, if_neg h31])
        | exact absurd h12 h31
        | exact absurd h31 h12
    · refine k_lconst 34 35 C dX4_reduce_34 rfl (v := 1) rfl ?_
      refine k_goto 35 42 C dX4_reduce_35 (by decide) ?_
      refine k_put 42 45 C dX4_reduce_42 rfl ci_X4 7 fl_X4_50 (IsMdl.o ‹_›) (by decide) rfl rfl rfl wL_off (ps_4_7 _ _ _ _) ?_
      refine k_vret 45 C dX4_reduce_45 rfl ?_
      unfold tl rdN rdD
      first
        | (rw [if_pos h12, if_pos h31])
        | (rw [if_neg h12, if_neg h31])
        | exact absurd h12 h31
        | exact absurd h31 h12
  · refine k_lconst 15 16 C dX4_reduce_15 rfl (v := 0) rfl ?_
    refine k_goto 16 23 C dX4_reduce_16 (by decide) ?_
    refine k_put 23 26 C dX4_reduce_23 rfl ci_X4 6 fl_X4_46 (IsMdl.o ‹_›) (by decide) rfl rfl rfl wL_off (ps_4_6 _ _ _ _) ?_
    refine k_aload_n 26 27 C dX4_reduce_26 rfl 1 rfl ?_
    refine k_lload 27 29 C dX4_reduce_27 rfl 0 rfl ?_
    refine k_lconst 29 30 C dX4_reduce_29 rfl (v := 0) rfl ?_
    refine k_lcmp_ne 30 31 38 34 C dX4_reduce_30 rfl dX4_reduce_31 (by decide) rfl (fun h31 => ?_) (fun h31 => ?_)
    · refine k_lload_n 38 39 C dX4_reduce_38 rfl 3 rfl ?_
      refine k_lload 39 41 C dX4_reduce_39 rfl 0 rfl ?_
      refine k_ldiv 41 42 C dX4_reduce_41 rfl h31 ?_
      refine k_put 42 45 C dX4_reduce_42 rfl ci_X4 7 fl_X4_50 (IsMdl.o ‹_›) (by decide) rfl rfl rfl wL_off (ps_4_7 _ _ _ _) ?_
      refine k_vret 45 C dX4_reduce_45 rfl ?_
      unfold tl rdN rdD
      first
        | (rw [if_pos h12, if_pos h31])
        | (rw [if_neg h12, if_neg h31])
        | exact absurd h12 h31
        | exact absurd h31 h12
    · refine k_lconst 34 35 C dX4_reduce_34 rfl (v := 1) rfl ?_
      refine k_goto 35 42 C dX4_reduce_35 (by decide) ?_
      refine k_put 42 45 C dX4_reduce_42 rfl ci_X4 7 fl_X4_50 (IsMdl.o ‹_›) (by decide) rfl rfl rfl wL_off (ps_4_7 _ _ _ _) ?_
      refine k_vret 45 C dX4_reduce_45 rfl ?_
      unfold tl rdN rdD
      first
        | (rw [if_pos h12, if_pos h31])
        | (rw [if_neg h12, if_neg h31])
        | exact absurd h12 h31
        | exact absurd h31 h12
set_option maxHeartbeats 4000000 in
set_option maxRecDepth 100000 in
theorem ct_X4_plus {E : gE} {T : gT} {l : Launch} {V : gV} {x y z u v : Int64} (hz : ¬ dvs y v = 0) {M : Nat} (hM : IsMdl T M) : CtV E T l yX4_plus (gw yX4_plus cX4_plus 13 none) { frames := 3, cells := 0, slots := 0, locals := 76 } [.ref M, .long x, .long y, .long z, .long u, .long v] V (fun (V' : gV) => V' = tl V M (rdN (plN x y z u v) (plD y v)) (rdD (plN x y z u v) (plD y v))) := by
  refine ctV_of (L := [(0, .ref M), (1, .long x), (3, .long y), (5, .long z), (7, .long u), (9, .long v)]) (by decide) rfl (Nat.le_of_ble_eq_true rfl) rfl (fun p e s m args below meth c C => ?_)
  refine k_lload_n 0 1 C dX4_plus_0 rfl 2 rfl ?_
  refine k_lload 1 3 C dX4_plus_1 rfl 5 rfl ?_
  refine k_callSL 3 6 C [_, _] [] dX4_plus_3 rfl ct_X4_divisor mi_X4_divisor ml_X4_42 st_X4_divisor rfl rfl ⟨Nat.le_of_ble_eq_true rfl, Nat.le_of_ble_eq_true rfl⟩ (Nat.le_of_ble_eq_true rfl) (Nat.zero_le _) (Nat.zero_le _) (fun r3 V3 p3 => ?_)
  obtain ⟨rfl, rfl⟩ := And.intro p3.1.symm p3.2
  refine k_lstore 6 8 C [(11, _), (0, _), (1, _), (3, _), (5, _), (7, _), (9, _)] dX4_plus_6 rfl (by decide) rfl ?_
  refine k_aload_n 8 9 C dX4_plus_8 rfl 1 rfl ?_
  refine k_lload_n 9 10 C dX4_plus_9 rfl 2 rfl ?_
  refine k_lload 10 12 C dX4_plus_10 rfl 6 rfl ?_
  refine k_lload 12 14 C dX4_plus_12 rfl 0 rfl ?_
  refine k_ldiv 14 15 C dX4_plus_14 rfl hz ?_
  refine k_lmul 15 16 C dX4_plus_15 rfl  ?_
  refine k_lload 16 18 C dX4_plus_16 rfl 4 rfl ?_
  refine k_lload 18 20 C dX4_plus_18 rfl 5 rfl ?_
  refine k_lmul 20 21 C dX4_plus_20 rfl  ?_
  refine k_lload_n 21 22 C dX4_plus_21 rfl 3 rfl ?_
  refine k_lload 22 24 C dX4_plus_22 rfl 0 rfl ?_
  refine k_ldiv 24 25 C dX4_plus_24 rfl hz ?_
  refine k_lmul 25 26 C dX4_plus_25 rfl  ?_
  refine k_ladd 26 27 C dX4_plus_26 rfl  ?_
  refine k_lload_n 27 28 C dX4_plus_27 rfl 3 rfl ?_
  refine k_lload 28 30 C dX4_plus_28 rfl 0 rfl ?_
  refine k_ldiv 30 31 C dX4_plus_30 rfl hz ?_
  refine k_lload 31 33 C dX4_plus_31 rfl 6 rfl ?_
  refine k_lmul 33 34 C dX4_plus_33 rfl  ?_
  refine k_callVV 34 37 C [_, _] [] dX4_plus_34 rfl (ct_X4_reduce hM) mi_X4_reduce ml_X4_53 im_X4_reduce se_X4_reduce ci_X4 (IsMdl.o ‹_›) rfl rfl ⟨Nat.le_of_ble_eq_true rfl, Nat.le_of_ble_eq_true rfl⟩ (Nat.le_of_ble_eq_true rfl) (Nat.zero_le _) (Nat.zero_le _) (fun V34 p34 => ?_)
  refine k_vret 37 C dX4_plus_37 rfl ?_
  exact p34
set_option maxHeartbeats 4000000 in
set_option maxRecDepth 100000 in
theorem ct_X4_put {E : gE} {T : gT} {l : Launch} {V : gV} {k M : Nat} {x y : Int64} (hk : k + 1 < 915) (h6 : V.2.1 M 6 = x) (h7 : V.2.1 M 7 = y) (hM : IsMdl T M) : CtV E T l yX4_put (gw yX4_put cX4_put 2 none) { frames := 0, cells := 0, slots := 0, locals := 0 } [.ref M, .int (nI k)] V (fun (V' : gV) => V' = wL (wL V (M + 1) k x) (M + 1) (k + 1) y) := by
  refine ctV_of (L := [(0, .ref M), (1, .int (nI k))]) (by decide) rfl (Nat.le_of_ble_eq_true rfl) rfl (fun p e s m args below meth c C => ?_)
  refine k_aload_n 0 1 C dX4_put_0 rfl 0 rfl ?_
  refine k_getF 1 4 C dX4_put_1 rfl ci_X4 0 fl_X4_7 (IsMdl.o ‹_›) (by decide) (IsMdl.f0 ‹_›) rfl ?_
  refine k_iload_n 4 5 C dX4_put_4 rfl 1 rfl ?_
  refine k_aload_n 5 6 C dX4_put_5 rfl 0 rfl ?_
  refine k_get 6 9 C dX4_put_6 rfl ci_X4 6 fl_X4_46 (IsMdl.o ‹_›) (by decide) rfl ?_
  refine k_rwL (h6) ?_
  refine k_last 9 10 C dX4_put_9 rfl (IsMdl.a0 ‹_›) (vp_in_nI (show k < 915 by omega) (by decide)) ?_
  rw [nI_clamp (show k < 2 ^ 31 by omega)]
  refine k_aload_n 10 11 C dX4_put_10 rfl 0 rfl ?_
  refine k_getF 11 14 C dX4_put_11 rfl ci_X4 0 fl_X4_7 (IsMdl.o ‹_›) (by decide) (IsMdl.f0 ‹_›) rfl ?_
  refine k_iload_n 14 15 C dX4_put_14 rfl 1 rfl ?_
  refine k_iconst 15 16 C dX4_put_15 rfl (v := 1) rfl ?_
  refine k_iadd 16 17 C dX4_put_16 rfl  ?_
  refine k_rwI (nI_1 k) ?_
  refine k_aload_n 17 18 C dX4_put_17 rfl 0 rfl ?_
  refine k_get 18 21 C dX4_put_18 rfl ci_X4 7 fl_X4_50 (IsMdl.o ‹_›) (by decide) rfl ?_
  refine k_rwL (y := y) (by rw [wP_tl]; exact h7) ?_
  refine k_last 21 22 C dX4_put_21 rfl (IsMdl.a0 ‹_›) (vp_in_nI hk (by decide)) ?_
  rw [nI_clamp (show k + 1 < 2 ^ 31 by omega)]
  refine k_vret 22 C dX4_put_22 rfl ?_
  exact rfl
def sgf (f : Nat → Int64) (ax : Nat) : Int32 := if f 4 = 1 ∨ (f 4 = 2 ∧ ax = 0) then -1 else 1
def aimA (f : Nat → Int64) (ax : Nat) (n d : Int64) : Int64 := f (2 + ax) * d * f 1 + (sgf f ax).toInt64 * f 0 * (n - f (2 + ax) * d)
def aimB (f : Nat → Int64) (d : Int64) : Int64 := d * f 1
def folU (x y n d : Int64) : Int64 := rdN (plN x y (-1) n d) (plD y d)
def folV (x y n d : Int64) : Int64 := rdD (plN x y (-1) n d) (plD y d)
def folN (f : Nat → Int64) (x y n d : Int64) : Int64 := if f 5 * folV x y n d < folU x y n d then rdN (plN x y (-1) (f 5) 1) (plD y 1) else if f 5 * folV x y n d < -folU x y n d then rdN (plN x y 1 (f 5) 1) (plD y 1) else rdN n d
def folD (f : Nat → Int64) (x y n d : Int64) : Int64 := if f 5 * folV x y n d < folU x y n d then rdD (plN x y (-1) (f 5) 1) (plD y 1) else if f 5 * folV x y n d < -folU x y n d then rdD (plN x y 1 (f 5) 1) (plD y 1) else rdD n d
set_option maxHeartbeats 4000000 in
set_option maxRecDepth 100000 in
theorem ct_X4_signOf {E : gE} {T : gT} {l : Launch} {V : gV} {ax : Nat} (hax : ax < 2) {M : Nat} {f : Nat → Int64} (hM : IsMdl T M) (hf : PQ V M f) : CtI E T l yX4_signOf (gw yX4_signOf cX4_signOf 2 (some .int)) { frames := 0, cells := 0, slots := 0, locals := 0 } [.ref M, .int (nI ax)] V (fun (r : Int32) (V' : gV) => V' = V ∧ r = sgf f ax) := by
  refine ctI_of (L := [(0, .ref M), (1, .int (nI ax))]) (by decide) rfl (Nat.le_of_ble_eq_true rfl) rfl (fun p e s m args below meth c C => ?_)
  refine k_aload_n 0 1 C dX4_signOf_0 rfl 0 rfl ?_
  refine k_getF 1 4 C dX4_signOf_1 rfl ci_X4 0 fl_X4_7 (IsMdl.o ‹_›) (by decide) (IsMdl.f0 ‹_›) rfl ?_
  refine k_iconst 4 5 C dX4_signOf_4 rfl (v := 4) rfl ?_
  refine k_lald 5 6 C dX4_signOf_5 rfl (IsMdl.a0 ‹_›) (vp_in_nI (n := 4) (by decide) (by decide)) ?_
  refine k_rwL (y := f 4) (hf 4 (by decide)) ?_
  refine k_lconst 6 7 C dX4_signOf_6 rfl (v := 1) rfl ?_
  refine k_lcmp_eq 7 8 28 11 C dX4_signOf_7 rfl dX4_signOf_8 (by decide) rfl (fun h8 => ?_) (fun h8 => ?_)
  · refine k_iconst 28 29 C dX4_signOf_28 rfl (v := (-1)) rfl ?_
    refine k_goto 29 33 C dX4_signOf_29 (by decide) ?_
    refine k_iret 33 C dX4_signOf_33 rfl ?_
    exact ⟨rfl, by simp [sgf, h8, *]⟩
  · refine k_aload_n 11 12 C dX4_signOf_11 rfl 0 rfl ?_
    refine k_getF 12 15 C dX4_signOf_12 rfl ci_X4 0 fl_X4_7 (IsMdl.o ‹_›) (by decide) (IsMdl.f0 ‹_›) rfl ?_
    refine k_iconst 15 16 C dX4_signOf_15 rfl (v := 4) rfl ?_
    refine k_lald 16 17 C dX4_signOf_16 rfl (IsMdl.a0 ‹_›) (vp_in_nI (n := 4) (by decide) (by decide)) ?_
    refine k_rwL (y := f 4) (hf 4 (by decide)) ?_
    refine k_ldc2 17 20 C dX4_signOf_17 rfl kl_X4_122 ?_
    refine k_lcmp_ne 20 21 32 24 C dX4_signOf_20 rfl dX4_signOf_21 (by decide) rfl (fun h21 => ?_) (fun h21 => ?_)
    · refine k_iconst 32 33 C dX4_signOf_32 rfl (v := 1) rfl ?_
      refine k_iret 33 C dX4_signOf_33 rfl ?_
      exact ⟨rfl, by simp [sgf, h8, h21, *]⟩
    · refine k_iload_n 24 25 C dX4_signOf_24 rfl 1 rfl ?_
      refine k_if_ne 25 32 28 C dX4_signOf_25 (by decide) rfl (fun h25 => ?_) (fun h25 => ?_)
      · have z25 : ¬ ax = 0 := fun zz => h25 (by rw [zz]; rfl)
        refine k_iconst 32 33 C dX4_signOf_32 rfl (v := 1) rfl ?_
        refine k_iret 33 C dX4_signOf_33 rfl ?_
        exact ⟨rfl, by simp [sgf, h8, h21, h25, *]⟩
      · have z25 : ax = 0 := (nI_eq (by omega) (by decide)).mp (h25 : nI ax = nI 0)
        refine k_iconst 28 29 C dX4_signOf_28 rfl (v := (-1)) rfl ?_
        refine k_goto 29 33 C dX4_signOf_29 (by decide) ?_
        refine k_iret 33 C dX4_signOf_33 rfl ?_
        exact ⟨rfl, by simp [sgf, h8, h21, h25, *]⟩
set_option maxHeartbeats 4000000 in
set_option maxRecDepth 100000 in
theorem ct_X4_aim {E : gE} {T : gT} {l : Launch} {V : gV} {ax : Nat} {x y : Int64} (hax : ax < 2) {M : Nat} {f : Nat → Int64} (hM : IsMdl T M) (hf : PQ V M f) : CtV E T l yX4_aim (gw yX4_aim cX4_aim 8 none) { frames := 3, cells := 0, slots := 0, locals := 76 } [.ref M, .int (nI ax), .long x, .long y] V (fun (V' : gV) => V' = tl V M (rdN (aimA f ax x y) (aimB f y)) (rdD (aimA f ax x y) (aimB f y))) := by
  refine ctV_of (L := [(0, .ref M), (1, .int (nI ax)), (2, .long x), (4, .long y)]) (by decide) rfl (Nat.le_of_ble_eq_true rfl) rfl (fun p e s m args below meth c C => ?_)
  refine k_aload_n 0 1 C dX4_aim_0 rfl 0 rfl ?_
  refine k_getF 1 4 C dX4_aim_1 rfl ci_X4 0 fl_X4_7 (IsMdl.o ‹_›) (by decide) (IsMdl.f0 ‹_›) rfl ?_
  refine k_iconst 4 5 C dX4_aim_4 rfl (v := 2) rfl ?_
  refine k_iload_n 5 6 C dX4_aim_5 rfl 1 rfl ?_
  refine k_iadd 6 7 C dX4_aim_6 rfl  ?_
  refine k_rwI (y := nI (2 + ax)) (nI_add 2 ax) ?_
  refine k_lald 7 8 C dX4_aim_7 rfl (IsMdl.a0 ‹_›) (vp_in_nI (show 2 + ax < 915 by omega) (by decide)) ?_
  rw [nI_clamp (show 2 + ax < 2 ^ 31 by omega)]
  refine k_rwL (y := f (2 + ax)) (hf _ (by omega)) ?_
  refine k_lstore 8 10 C [(6, _), (0, _), (1, _), (2, _), (4, _)] dX4_aim_8 rfl (by decide) rfl ?_
  refine k_aload_n 10 11 C dX4_aim_10 rfl 1 rfl ?_
  refine k_lload 11 13 C dX4_aim_11 rfl 0 rfl ?_
  refine k_lload 13 15 C dX4_aim_13 rfl 4 rfl ?_
  refine k_lmul 15 16 C dX4_aim_15 rfl  ?_
  refine k_aload_n 16 17 C dX4_aim_16 rfl 1 rfl ?_
  refine k_getF 17 20 C dX4_aim_17 rfl ci_X4 0 fl_X4_7 (IsMdl.o ‹_›) (by decide) (IsMdl.f0 ‹_›) rfl ?_
  refine k_iconst 20 21 C dX4_aim_20 rfl (v := 1) rfl ?_
  refine k_lald 21 22 C dX4_aim_21 rfl (IsMdl.a0 ‹_›) (vp_in_nI (n := 1) (by decide) (by decide)) ?_
  refine k_rwL (y := f 1) (hf 1 (by decide)) ?_
  refine k_lmul 22 23 C dX4_aim_22 rfl  ?_
  refine k_aload_n 23 24 C dX4_aim_23 rfl 1 rfl ?_
  refine k_iload_n 24 25 C dX4_aim_24 rfl 2 rfl ?_
  refine k_callVI 25 28 C [_] [_, _] dX4_aim_25 rfl (ct_X4_signOf hax hM hf) mi_X4_signOf ml_X4_124 im_X4_signOf se_X4_signOf ci_X4 (IsMdl.o ‹_›) rfl rfl ⟨Nat.le_of_ble_eq_true rfl, Nat.le_of_ble_eq_true rfl⟩ (Nat.le_of_ble_eq_true rfl) (Nat.zero_le _) (Nat.zero_le _) (fun r25 V25 p25 => ?_)
  obtain ⟨rfl, rfl⟩ := And.intro p25.1.symm p25.2
  refine k_i2l 28 29 C dX4_aim_28 rfl  ?_
  refine k_aload_n 29 30 C dX4_aim_29 rfl 1 rfl ?_
  refine k_getF 30 33 C dX4_aim_30 rfl ci_X4 0 fl_X4_7 (IsMdl.o ‹_›) (by decide) (IsMdl.f0 ‹_›) rfl ?_
  refine k_iconst 33 34 C dX4_aim_33 rfl (v := 0) rfl ?_
  refine k_lald 34 35 C dX4_aim_34 rfl (IsMdl.a0 ‹_›) (vp_in_nI (n := 0) (by decide) (by decide)) ?_
  refine k_rwL (y := f 0) (hf 0 (by decide)) ?_
  refine k_lmul 35 36 C dX4_aim_35 rfl  ?_
  refine k_lload_n 36 37 C dX4_aim_36 rfl 3 rfl ?_
  refine k_lload 37 39 C dX4_aim_37 rfl 0 rfl ?_
  refine k_lload 39 41 C dX4_aim_39 rfl 4 rfl ?_
  refine k_lmul 41 42 C dX4_aim_41 rfl  ?_
  refine k_lsub 42 43 C dX4_aim_42 rfl  ?_
  refine k_lmul 43 44 C dX4_aim_43 rfl  ?_
  refine k_ladd 44 45 C dX4_aim_44 rfl  ?_
  refine k_lload 45 47 C dX4_aim_45 rfl 4 rfl ?_
  refine k_aload_n 47 48 C dX4_aim_47 rfl 1 rfl ?_
  refine k_getF 48 51 C dX4_aim_48 rfl ci_X4 0 fl_X4_7 (IsMdl.o ‹_›) (by decide) (IsMdl.f0 ‹_›) rfl ?_
  refine k_iconst 51 52 C dX4_aim_51 rfl (v := 1) rfl ?_
  refine k_lald 52 53 C dX4_aim_52 rfl (IsMdl.a0 ‹_›) (vp_in_nI (n := 1) (by decide) (by decide)) ?_
  refine k_rwL (y := f 1) (hf 1 (by decide)) ?_
  refine k_lmul 53 54 C dX4_aim_53 rfl  ?_
  refine k_callVV 54 57 C [_, _] [] dX4_aim_54 rfl (ct_X4_reduce hM) mi_X4_reduce ml_X4_53 im_X4_reduce se_X4_reduce ci_X4 (IsMdl.o ‹_›) rfl rfl ⟨Nat.le_of_ble_eq_true rfl, Nat.le_of_ble_eq_true rfl⟩ (Nat.le_of_ble_eq_true rfl) (Nat.zero_le _) (Nat.zero_le _) (fun V54 p54 => ?_)
  refine k_vret 57 C dX4_aim_57 rfl ?_
  exact p54
theorem tl_tl {V : gV} {M : Nat} {a b x y : Int64} : tl (tl V M a b) M x y = tl V M x y := by
  unfold tl wL
  simp only [Prod.mk.injEq, true_and]
  refine ⟨funext fun b' => ?_, trivial⟩
  by_cases e : b' = M
  · subst e
    simp only [if_true]
    funext j
    by_cases e7 : j = 7
    · subst e7; simp [vp_updL]
    · by_cases e6 : j = 6
      · subst e6; simp [vp_updL]
      · simp [vp_updL, e6, e7]
  · simp [e]
set_option maxHeartbeats 4000000 in
set_option maxRecDepth 100000 in
theorem ct_X4_follow {E : gE} {T : gT} {l : Launch} {V : gV} {x y z u : Int64} {M : Nat} {f : Nat → Int64} (h6 : V.2.1 M 6 = x) (h7 : V.2.1 M 7 = y) (hz1 : ¬ dvs y u = 0) (hz2 : ¬ dvs y 1 = 0) (hM : IsMdl T M) (hf : PQ V M f) : CtV E T l yX4_follow (gw yX4_follow cX4_follow 11 none) { frames := 4, cells := 0, slots := 0, locals := 108 } [.ref M, .long z, .long u] V (fun (V' : gV) => V' = tl V M (folN f x y z u) (folD f x y z u)) := by
  refine ctV_of (L := [(0, .ref M), (1, .long z), (3, .long u)]) (by decide) rfl (Nat.le_of_ble_eq_true rfl) rfl (fun p e s m args below meth c C => ?_)
  refine k_aload_n 0 1 C dX4_follow_0 rfl 0 rfl ?_
  refine k_get 1 4 C dX4_follow_1 rfl ci_X4 6 fl_X4_46 (IsMdl.o ‹_›) (by decide) rfl ?_
  refine k_rwL (h6) ?_
  refine k_lstore 4 6 C [(5, _), (0, _), (1, _), (3, _)] dX4_follow_4 rfl (by decide) rfl ?_
  refine k_aload_n 6 7 C dX4_follow_6 rfl 1 rfl ?_
  refine k_get 7 10 C dX4_follow_7 rfl ci_X4 7 fl_X4_50 (IsMdl.o ‹_›) (by decide) rfl ?_
  refine k_rwL (h7) ?_
  refine k_lstore 10 12 C [(7, _), (5, _), (0, _), (1, _), (3, _)] dX4_follow_10 rfl (by decide) rfl ?_
  refine k_aload_n 12 13 C dX4_follow_12 rfl 2 rfl ?_
  refine k_lload 13 15 C dX4_follow_13 rfl 1 rfl ?_
  refine k_lload 15 17 C dX4_follow_15 rfl 0 rfl ?_
  refine k_ldc2 17 20 C dX4_follow_17 rfl kl_X4_96 ?_
  refine k_lload_n 20 21 C dX4_follow_20 rfl 3 rfl ?_
  refine k_lload_n 21 22 C dX4_follow_21 rfl 4 rfl ?_
  refine k_callVV 22 25 C [_, _, _, _, _] [] dX4_follow_22 rfl (ct_X4_plus hz1 hM) mi_X4_plus ml_X4_107 im_X4_plus se_X4_plus ci_X4 (IsMdl.o ‹_›) rfl rfl ⟨Nat.le_of_ble_eq_true rfl, Nat.le_of_ble_eq_true rfl⟩ (Nat.le_of_ble_eq_true rfl) (Nat.zero_le _) (Nat.zero_le _) (fun V22 p22 => ?_)
  subst p22
  have hf2 := (tl_pg (x := folU x y z u) (y := folV x y z u) hf).2.2.2
  refine k_aload_n 25 26 C dX4_follow_25 rfl 2 rfl ?_
  refine k_get 26 29 C dX4_follow_26 rfl ci_X4 6 fl_X4_46 (IsMdl.o ‹_›) (by decide) rfl ?_
  refine k_rwL (y := folU x y z u) tl6 ?_
  refine k_aload_n 29 30 C dX4_follow_29 rfl 2 rfl ?_
  refine k_getF 30 33 C dX4_follow_30 rfl ci_X4 0 fl_X4_7 (IsMdl.o ‹_›) (by decide) (IsMdl.f0 ‹_›) rfl ?_
  refine k_iconst 33 34 C dX4_follow_33 rfl (v := 5) rfl ?_
  refine k_lald 34 35 C dX4_follow_34 rfl (IsMdl.a0 ‹_›) (vp_in_nI (n := 5) (by decide) (by decide)) ?_
  refine k_rwL (y := f 5) (hf2 5 (by decide)) ?_
  refine k_aload_n 35 36 C dX4_follow_35 rfl 2 rfl ?_
  refine k_get 36 39 C dX4_follow_36 rfl ci_X4 7 fl_X4_50 (IsMdl.o ‹_›) (by decide) rfl ?_
  refine k_rwL (y := folV x y z u) tl7 ?_
  refine k_lmul 39 40 C dX4_follow_39 rfl  ?_
  refine k_lcmp_le 40 41 48 44 C dX4_follow_40 rfl dX4_follow_41 (by decide) rfl (fun h41 => ?_) (fun h41 => ?_)
  · refine k_iconst 48 49 C dX4_follow_48 rfl (v := 0) rfl ?_
    refine k_istore 49 51 C [(9, _), (7, _), (5, _), (0, _), (1, _), (3, _)] dX4_follow_49 rfl (by decide) rfl ?_
    refine k_aload_n 51 52 C dX4_follow_51 rfl 3 rfl ?_
    refine k_get 52 55 C dX4_follow_52 rfl ci_X4 6 fl_X4_46 (IsMdl.o ‹_›) (by decide) rfl ?_
    refine k_rwL (y := folU x y z u) tl6 ?_
    refine k_lneg 55 56 C dX4_follow_55 rfl  ?_
    refine k_aload_n 56 57 C dX4_follow_56 rfl 3 rfl ?_
    refine k_getF 57 60 C dX4_follow_57 rfl ci_X4 0 fl_X4_7 (IsMdl.o ‹_›) (by decide) (IsMdl.f0 ‹_›) rfl ?_
    refine k_iconst 60 61 C dX4_follow_60 rfl (v := 5) rfl ?_
    refine k_lald 61 62 C dX4_follow_61 rfl (IsMdl.a0 ‹_›) (vp_in_nI (n := 5) (by decide) (by decide)) ?_
    refine k_rwL (y := f 5) (hf2 5 (by decide)) ?_
    refine k_aload_n 62 63 C dX4_follow_62 rfl 3 rfl ?_
    refine k_get 63 66 C dX4_follow_63 rfl ci_X4 7 fl_X4_50 (IsMdl.o ‹_›) (by decide) rfl ?_
    refine k_rwL (y := folV x y z u) tl7 ?_
    refine k_lmul 66 67 C dX4_follow_66 rfl  ?_
    refine k_lcmp_le 67 68 75 71 C dX4_follow_67 rfl dX4_follow_68 (by decide) rfl (fun h68 => ?_) (fun h68 => ?_)
    · refine k_iconst 75 76 C dX4_follow_75 rfl (v := 0) rfl ?_
      refine k_istore 76 78 C [(10, _), (9, _), (7, _), (5, _), (0, _), (1, _), (3, _)] dX4_follow_76 rfl (by decide) rfl ?_
      refine k_iload 78 80 C dX4_follow_78 rfl 1 rfl ?_
      refine k_if_ne 80 88 83 C dX4_follow_80 (by decide) rfl (fun h80 => ?_) (fun h80 => ?_)
      · refine k_aload_n 88 89 C dX4_follow_88 rfl 4 rfl ?_
        refine k_lload 89 91 C dX4_follow_89 rfl 3 rfl ?_
        refine k_lload 91 93 C dX4_follow_91 rfl 2 rfl ?_
        refine k_iload 93 95 C dX4_follow_93 rfl 1 rfl ?_
        refine k_if_eq 95 104 98 C dX4_follow_95 (by decide) rfl (fun h95 => ?_) (fun h95 => ?_)
        · refine k_lconst 104 105 C dX4_follow_104 rfl (v := 1) rfl ?_
          refine k_aload_n 105 106 C dX4_follow_105 rfl 4 rfl ?_
          refine k_getF 106 109 C dX4_follow_106 rfl ci_X4 0 fl_X4_7 (IsMdl.o ‹_›) (by decide) (IsMdl.f0 ‹_›) rfl ?_
          refine k_iconst 109 110 C dX4_follow_109 rfl (v := 5) rfl ?_
          refine k_lald 110 111 C dX4_follow_110 rfl (IsMdl.a0 ‹_›) (vp_in_nI (n := 5) (by decide) (by decide)) ?_
          refine k_rwL (y := f 5) (hf2 5 (by decide)) ?_
          refine k_lconst 111 112 C dX4_follow_111 rfl (v := 1) rfl ?_
          refine k_callVV 112 115 C [_, _, _, _, _] [] dX4_follow_112 rfl (ct_X4_plus hz2 hM) mi_X4_plus ml_X4_107 im_X4_plus se_X4_plus ci_X4 (IsMdl.o ‹_›) rfl rfl ⟨Nat.le_of_ble_eq_true rfl, Nat.le_of_ble_eq_true rfl⟩ (Nat.le_of_ble_eq_true rfl) (Nat.zero_le _) (Nat.zero_le _) (fun V112 p112 => ?_)
          refine k_goto 115 124 C dX4_follow_115 (by decide) ?_
          refine k_vret 124 C dX4_follow_124 rfl ?_
          first
            | (rw [p112, tl_tl]; unfold folN folD; rw [if_pos (i64_not_le.mp h41), if_pos (i64_not_le.mp h41)]; done)
            | (rw [p112, tl_tl]; unfold folN folD; rw [if_neg (i64_not_lt.mpr h41), if_pos (i64_not_le.mp h68), if_neg (i64_not_lt.mpr h41), if_pos (i64_not_le.mp h68)]; done)
            | (rw [p121, tl_tl]; unfold folN folD; rw [if_neg (i64_not_lt.mpr h41), if_neg (i64_not_lt.mpr h68), if_neg (i64_not_lt.mpr h41), if_neg (i64_not_lt.mpr h68)]; done)
            | exact absurd rfl h80 | exact absurd rfl h85 | exact absurd rfl h95 | exact absurd h80 (by decide) | exact absurd h85 (by decide) | exact absurd h95 (by decide)
        · refine k_ldc2 98 101 C dX4_follow_98 rfl kl_X4_96 ?_
          refine k_goto 101 105 C dX4_follow_101 (by decide) ?_
          refine k_aload_n 105 106 C dX4_follow_105 rfl 4 rfl ?_
          refine k_getF 106 109 C dX4_follow_106 rfl ci_X4 0 fl_X4_7 (IsMdl.o ‹_›) (by decide) (IsMdl.f0 ‹_›) rfl ?_
          refine k_iconst 109 110 C dX4_follow_109 rfl (v := 5) rfl ?_
          refine k_lald 110 111 C dX4_follow_110 rfl (IsMdl.a0 ‹_›) (vp_in_nI (n := 5) (by decide) (by decide)) ?_
          refine k_rwL (y := f 5) (hf2 5 (by decide)) ?_
          refine k_lconst 111 112 C dX4_follow_111 rfl (v := 1) rfl ?_
          refine k_callVV 112 115 C [_, _, _, _, _] [] dX4_follow_112 rfl (ct_X4_plus hz2 hM) mi_X4_plus ml_X4_107 im_X4_plus se_X4_plus ci_X4 (IsMdl.o ‹_›) rfl rfl ⟨Nat.le_of_ble_eq_true rfl, Nat.le_of_ble_eq_true rfl⟩ (Nat.le_of_ble_eq_true rfl) (Nat.zero_le _) (Nat.zero_le _) (fun V112 p112 => ?_)
          refine k_goto 115 124 C dX4_follow_115 (by decide) ?_
          refine k_vret 124 C dX4_follow_124 rfl ?_
          first
            | (rw [p112, tl_tl]; unfold folN folD; rw [if_pos (i64_not_le.mp h41), if_pos (i64_not_le.mp h41)]; done)
            | (rw [p112, tl_tl]; unfold folN folD; rw [if_neg (i64_not_lt.mpr h41), if_pos (i64_not_le.mp h68), if_neg (i64_not_lt.mpr h41), if_pos (i64_not_le.mp h68)]; done)
            | (rw [p121, tl_tl]; unfold folN folD; rw [if_neg (i64_not_lt.mpr h41), if_neg (i64_not_lt.mpr h68), if_neg (i64_not_lt.mpr h41), if_neg (i64_not_lt.mpr h68)]; done)
            | exact absurd rfl h80 | exact absurd rfl h85 | exact absurd rfl h95 | exact absurd h80 (by decide) | exact absurd h85 (by decide) | exact absurd h95 (by decide)
      · refine k_iload 83 85 C dX4_follow_83 rfl 0 rfl ?_
        refine k_if_eq 85 118 88 C dX4_follow_85 (by decide) rfl (fun h85 => ?_) (fun h85 => ?_)
        · refine k_aload_n 118 119 C dX4_follow_118 rfl 4 rfl ?_
          refine k_lload_n 119 120 C dX4_follow_119 rfl 5 rfl ?_
          refine k_lload_n 120 121 C dX4_follow_120 rfl 6 rfl ?_
          refine k_callVV 121 124 C [_, _] [] dX4_follow_121 rfl (ct_X4_reduce hM) mi_X4_reduce ml_X4_53 im_X4_reduce se_X4_reduce ci_X4 (IsMdl.o ‹_›) rfl rfl ⟨Nat.le_of_ble_eq_true rfl, Nat.le_of_ble_eq_true rfl⟩ (Nat.le_of_ble_eq_true rfl) (Nat.zero_le _) (Nat.zero_le _) (fun V121 p121 => ?_)
          refine k_vret 124 C dX4_follow_124 rfl ?_
          first
            | (rw [p112, tl_tl]; unfold folN folD; rw [if_pos (i64_not_le.mp h41), if_pos (i64_not_le.mp h41)]; done)
            | (rw [p112, tl_tl]; unfold folN folD; rw [if_neg (i64_not_lt.mpr h41), if_pos (i64_not_le.mp h68), if_neg (i64_not_lt.mpr h41), if_pos (i64_not_le.mp h68)]; done)
            | (rw [p121, tl_tl]; unfold folN folD; rw [if_neg (i64_not_lt.mpr h41), if_neg (i64_not_lt.mpr h68), if_neg (i64_not_lt.mpr h41), if_neg (i64_not_lt.mpr h68)]; done)
            | exact absurd rfl h80 | exact absurd rfl h85 | exact absurd rfl h95 | exact absurd h80 (by decide) | exact absurd h85 (by decide) | exact absurd h95 (by decide)
        · refine k_aload_n 88 89 C dX4_follow_88 rfl 4 rfl ?_
          refine k_lload 89 91 C dX4_follow_89 rfl 3 rfl ?_
          refine k_lload 91 93 C dX4_follow_91 rfl 2 rfl ?_
          refine k_iload 93 95 C dX4_follow_93 rfl 1 rfl ?_
          refine k_if_eq 95 104 98 C dX4_follow_95 (by decide) rfl (fun h95 => ?_) (fun h95 => ?_)
          · refine k_lconst 104 105 C dX4_follow_104 rfl (v := 1) rfl ?_
            refine k_aload_n 105 106 C dX4_follow_105 rfl 4 rfl ?_
            refine k_getF 106 109 C dX4_follow_106 rfl ci_X4 0 fl_X4_7 (IsMdl.o ‹_›) (by decide) (IsMdl.f0 ‹_›) rfl ?_
            refine k_iconst 109 110 C dX4_follow_109 rfl (v := 5) rfl ?_
            refine k_lald 110 111 C dX4_follow_110 rfl (IsMdl.a0 ‹_›) (vp_in_nI (n := 5) (by decide) (by decide)) ?_
            refine k_rwL (y := f 5) (hf2 5 (by decide)) ?_
            refine k_lconst 111 112 C dX4_follow_111 rfl (v := 1) rfl ?_
            refine k_callVV 112 115 C [_, _, _, _, _] [] dX4_follow_112 rfl (ct_X4_plus hz2 hM) mi_X4_plus ml_X4_107 im_X4_plus se_X4_plus ci_X4 (IsMdl.o ‹_›) rfl rfl ⟨Nat.le_of_ble_eq_true rfl, Nat.le_of_ble_eq_true rfl⟩ (Nat.le_of_ble_eq_true rfl) (Nat.zero_le _) (Nat.zero_le _) (fun V112 p112 => ?_)
            refine k_goto 115 124 C dX4_follow_115 (by decide) ?_
            refine k_vret 124 C dX4_follow_124 rfl ?_
            first
              | (rw [p112, tl_tl]; unfold folN folD; rw [if_pos (i64_not_le.mp h41), if_pos (i64_not_le.mp h41)]; done)
              | (rw [p112, tl_tl]; unfold folN folD; rw [if_neg (i64_not_lt.mpr h41), if_pos (i64_not_le.mp h68), if_neg (i64_not_lt.mpr h41), if_pos (i64_not_le.mp h68)]; done)
              | (rw [p121, tl_tl]; unfold folN folD; rw [if_neg (i64_not_lt.mpr h41), if_neg (i64_not_lt.mpr h68), if_neg (i64_not_lt.mpr h41), if_neg (i64_not_lt.mpr h68)]; done)
              | exact absurd rfl h80 | exact absurd rfl h85 | exact absurd rfl h95 | exact absurd h80 (by decide) | exact absurd h85 (by decide) | exact absurd h95 (by decide)
          · refine k_ldc2 98 101 C dX4_follow_98 rfl kl_X4_96 ?_
            refine k_goto 101 105 C dX4_follow_101 (by decide) ?_
            refine k_aload_n 105 106 C dX4_follow_105 rfl 4 rfl ?_
            refine k_getF 106 109 C dX4_follow_106 rfl ci_X4 0 fl_X4_7 (IsMdl.o ‹_›) (by decide) (IsMdl.f0 ‹_›) rfl ?_
            refine k_iconst 109 110 C dX4_follow_109 rfl (v := 5) rfl ?_
            refine k_lald 110 111 C dX4_follow_110 rfl (IsMdl.a0 ‹_›) (vp_in_nI (n := 5) (by decide) (by decide)) ?_
            refine k_rwL (y := f 5) (hf2 5 (by decide)) ?_
            refine k_lconst 111 112 C dX4_follow_111 rfl (v := 1) rfl ?_
            refine k_callVV 112 115 C [_, _, _, _, _] [] dX4_follow_112 rfl (ct_X4_plus hz2 hM) mi_X4_plus ml_X4_107 im_X4_plus se_X4_plus ci_X4 (IsMdl.o ‹_›) rfl rfl ⟨Nat.le_of_ble_eq_true rfl, Nat.le_of_ble_eq_true rfl⟩ (Nat.le_of_ble_eq_true rfl) (Nat.zero_le _) (Nat.zero_le _) (fun V112 p112 => ?_)
            refine k_goto 115 124 C dX4_follow_115 (by decide) ?_
            refine k_vret 124 C dX4_follow_124 rfl ?_
            first
              | (rw [p112, tl_tl]; unfold folN folD; rw [if_pos (i64_not_le.mp h41), if_pos (i64_not_le.mp h41)]; done)
              | (rw [p112, tl_tl]; unfold folN folD; rw [if_neg (i64_not_lt.mpr h41), if_pos (i64_not_le.mp h68), if_neg (i64_not_lt.mpr h41), if_pos (i64_not_le.mp h68)]; done)
              | (rw [p121, tl_tl]; unfold folN folD; rw [if_neg (i64_not_lt.mpr h41), if_neg (i64_not_lt.mpr h68), if_neg (i64_not_lt.mpr h41), if_neg (i64_not_lt.mpr h68)]; done)
              | exact absurd rfl h80 | exact absurd rfl h85 | exact absurd rfl h95 | exact absurd h80 (by decide) | exact absurd h85 (by decide) | exact absurd h95 (by decide)
    · refine k_iconst 71 72 C dX4_follow_71 rfl (v := 1) rfl ?_
      refine k_goto 72 76 C dX4_follow_72 (by decide) ?_
      refine k_istore 76 78 C [(10, _), (9, _), (7, _), (5, _), (0, _), (1, _), (3, _)] dX4_follow_76 rfl (by decide) rfl ?_
      refine k_iload 78 80 C dX4_follow_78 rfl 1 rfl ?_
      refine k_if_ne 80 88 83 C dX4_follow_80 (by decide) rfl (fun h80 => ?_) (fun h80 => ?_)
      · refine k_aload_n 88 89 C dX4_follow_88 rfl 4 rfl ?_
        refine k_lload 89 91 C dX4_follow_89 rfl 3 rfl ?_
        refine k_lload 91 93 C dX4_follow_91 rfl 2 rfl ?_
        refine k_iload 93 95 C dX4_follow_93 rfl 1 rfl ?_
        refine k_if_eq 95 104 98 C dX4_follow_95 (by decide) rfl (fun h95 => ?_) (fun h95 => ?_)
        · refine k_lconst 104 105 C dX4_follow_104 rfl (v := 1) rfl ?_
          refine k_aload_n 105 106 C dX4_follow_105 rfl 4 rfl ?_
          refine k_getF 106 109 C dX4_follow_106 rfl ci_X4 0 fl_X4_7 (IsMdl.o ‹_›) (by decide) (IsMdl.f0 ‹_›) rfl ?_
          refine k_iconst 109 110 C dX4_follow_109 rfl (v := 5) rfl ?_
          refine k_lald 110 111 C dX4_follow_110 rfl (IsMdl.a0 ‹_›) (vp_in_nI (n := 5) (by decide) (by decide)) ?_
          refine k_rwL (y := f 5) (hf2 5 (by decide)) ?_
          refine k_lconst 111 112 C dX4_follow_111 rfl (v := 1) rfl ?_
          refine k_callVV 112 115 C [_, _, _, _, _] [] dX4_follow_112 rfl (ct_X4_plus hz2 hM) mi_X4_plus ml_X4_107 im_X4_plus se_X4_plus ci_X4 (IsMdl.o ‹_›) rfl rfl ⟨Nat.le_of_ble_eq_true rfl, Nat.le_of_ble_eq_true rfl⟩ (Nat.le_of_ble_eq_true rfl) (Nat.zero_le _) (Nat.zero_le _) (fun V112 p112 => ?_)
          refine k_goto 115 124 C dX4_follow_115 (by decide) ?_
          refine k_vret 124 C dX4_follow_124 rfl ?_
          first
            | (rw [p112, tl_tl]; unfold folN folD; rw [if_pos (i64_not_le.mp h41), if_pos (i64_not_le.mp h41)]; done)
            | (rw [p112, tl_tl]; unfold folN folD; rw [if_neg (i64_not_lt.mpr h41), if_pos (i64_not_le.mp h68), if_neg (i64_not_lt.mpr h41), if_pos (i64_not_le.mp h68)]; done)
            | (rw [p121, tl_tl]; unfold folN folD; rw [if_neg (i64_not_lt.mpr h41), if_neg (i64_not_lt.mpr h68), if_neg (i64_not_lt.mpr h41), if_neg (i64_not_lt.mpr h68)]; done)
            | exact absurd rfl h80 | exact absurd rfl h85 | exact absurd rfl h95 | exact absurd h80 (by decide) | exact absurd h85 (by decide) | exact absurd h95 (by decide)
        · refine k_ldc2 98 101 C dX4_follow_98 rfl kl_X4_96 ?_
          refine k_goto 101 105 C dX4_follow_101 (by decide) ?_
          refine k_aload_n 105 106 C dX4_follow_105 rfl 4 rfl ?_
          refine k_getF 106 109 C dX4_follow_106 rfl ci_X4 0 fl_X4_7 (IsMdl.o ‹_›) (by decide) (IsMdl.f0 ‹_›) rfl ?_
          refine k_iconst 109 110 C dX4_follow_109 rfl (v := 5) rfl ?_
          refine k_lald 110 111 C dX4_follow_110 rfl (IsMdl.a0 ‹_›) (vp_in_nI (n := 5) (by decide) (by decide)) ?_
          refine k_rwL (y := f 5) (hf2 5 (by decide)) ?_
          refine k_lconst 111 112 C dX4_follow_111 rfl (v := 1) rfl ?_
          refine k_callVV 112 115 C [_, _, _, _, _] [] dX4_follow_112 rfl (ct_X4_plus hz2 hM) mi_X4_plus ml_X4_107 im_X4_plus se_X4_plus ci_X4 (IsMdl.o ‹_›) rfl rfl ⟨Nat.le_of_ble_eq_true rfl, Nat.le_of_ble_eq_true rfl⟩ (Nat.le_of_ble_eq_true rfl) (Nat.zero_le _) (Nat.zero_le _) (fun V112 p112 => ?_)
          refine k_goto 115 124 C dX4_follow_115 (by decide) ?_
          refine k_vret 124 C dX4_follow_124 rfl ?_
          first
            | (rw [p112, tl_tl]; unfold folN folD; rw [if_pos (i64_not_le.mp h41), if_pos (i64_not_le.mp h41)]; done)
            | (rw [p112, tl_tl]; unfold folN folD; rw [if_neg (i64_not_lt.mpr h41), if_pos (i64_not_le.mp h68), if_neg (i64_not_lt.mpr h41), if_pos (i64_not_le.mp h68)]; done)
            | (rw [p121, tl_tl]; unfold folN folD; rw [if_neg (i64_not_lt.mpr h41), if_neg (i64_not_lt.mpr h68), if_neg (i64_not_lt.mpr h41), if_neg (i64_not_lt.mpr h68)]; done)
            | exact absurd rfl h80 | exact absurd rfl h85 | exact absurd rfl h95 | exact absurd h80 (by decide) | exact absurd h85 (by decide) | exact absurd h95 (by decide)
      · refine k_iload 83 85 C dX4_follow_83 rfl 0 rfl ?_
        refine k_if_eq 85 118 88 C dX4_follow_85 (by decide) rfl (fun h85 => ?_) (fun h85 => ?_)
        · refine k_aload_n 118 119 C dX4_follow_118 rfl 4 rfl ?_
          refine k_lload_n 119 120 C dX4_follow_119 rfl 5 rfl ?_
          refine k_lload_n 120 121 C dX4_follow_120 rfl 6 rfl ?_
          refine k_callVV 121 124 C [_, _] [] dX4_follow_121 rfl (ct_X4_reduce hM) mi_X4_reduce ml_X4_53 im_X4_reduce se_X4_reduce ci_X4 (IsMdl.o ‹_›) rfl rfl ⟨Nat.le_of_ble_eq_true rfl, Nat.le_of_ble_eq_true rfl⟩ (Nat.le_of_ble_eq_true rfl) (Nat.zero_le _) (Nat.zero_le _) (fun V121 p121 => ?_)
          refine k_vret 124 C dX4_follow_124 rfl ?_
          first
            | (rw [p112, tl_tl]; unfold folN folD; rw [if_pos (i64_not_le.mp h41), if_pos (i64_not_le.mp h41)]; done)
            | (rw [p112, tl_tl]; unfold folN folD; rw [if_neg (i64_not_lt.mpr h41), if_pos (i64_not_le.mp h68), if_neg (i64_not_lt.mpr h41), if_pos (i64_not_le.mp h68)]; done)
            | (rw [p121, tl_tl]; unfold folN folD; rw [if_neg (i64_not_lt.mpr h41), if_neg (i64_not_lt.mpr h68), if_neg (i64_not_lt.mpr h41), if_neg (i64_not_lt.mpr h68)]; done)
            | exact absurd rfl h80 | exact absurd rfl h85 | exact absurd rfl h95 | exact absurd h80 (by decide) | exact absurd h85 (by decide) | exact absurd h95 (by decide)
        · refine k_aload_n 88 89 C dX4_follow_88 rfl 4 rfl ?_
          refine k_lload 89 91 C dX4_follow_89 rfl 3 rfl ?_
          refine k_lload 91 93 C dX4_follow_91 rfl 2 rfl ?_
          refine k_iload 93 95 C dX4_follow_93 rfl 1 rfl ?_
          refine k_if_eq 95 104 98 C dX4_follow_95 (by decide) rfl (fun h95 => ?_) (fun h95 => ?_)
          · refine k_lconst 104 105 C dX4_follow_104 rfl (v := 1) rfl ?_
            refine k_aload_n 105 106 C dX4_follow_105 rfl 4 rfl ?_
            refine k_getF 106 109 C dX4_follow_106 rfl ci_X4 0 fl_X4_7 (IsMdl.o ‹_›) (by decide) (IsMdl.f0 ‹_›) rfl ?_
            refine k_iconst 109 110 C dX4_follow_109 rfl (v := 5) rfl ?_
            refine k_lald 110 111 C dX4_follow_110 rfl (IsMdl.a0 ‹_›) (vp_in_nI (n := 5) (by decide) (by decide)) ?_
            refine k_rwL (y := f 5) (hf2 5 (by decide)) ?_
            refine k_lconst 111 112 C dX4_follow_111 rfl (v := 1) rfl ?_
            refine k_callVV 112 115 C [_, _, _, _, _] [] dX4_follow_112 rfl (ct_X4_plus hz2 hM) mi_X4_plus ml_X4_107 im_X4_plus se_X4_plus ci_X4 (IsMdl.o ‹_›) rfl rfl ⟨Nat.le_of_ble_eq_true rfl, Nat.le_of_ble_eq_true rfl⟩ (Nat.le_of_ble_eq_true rfl) (Nat.zero_le _) (Nat.zero_le _) (fun V112 p112 => ?_)
            refine k_goto 115 124 C dX4_follow_115 (by decide) ?_
            refine k_vret 124 C dX4_follow_124 rfl ?_
            first
              | (rw [p112, tl_tl]; unfold folN folD; rw [if_pos (i64_not_le.mp h41), if_pos (i64_not_le.mp h41)]; done)
              | (rw [p112, tl_tl]; unfold folN folD; rw [if_neg (i64_not_lt.mpr h41), if_pos (i64_not_le.mp h68), if_neg (i64_not_lt.mpr h41), if_pos (i64_not_le.mp h68)]; done)
              | (rw [p121, tl_tl]; unfold folN folD; rw [if_neg (i64_not_lt.mpr h41), if_neg (i64_not_lt.mpr h68), if_neg (i64_not_lt.mpr h41), if_neg (i64_not_lt.mpr h68)]; done)
              | exact absurd rfl h80 | exact absurd rfl h85 | exact absurd rfl h95 | exact absurd h80 (by decide) | exact absurd h85 (by decide) | exact absurd h95 (by decide)
          · refine k_ldc2 98 101 C dX4_follow_98 rfl kl_X4_96 ?_
            refine k_goto 101 105 C dX4_follow_101 (by decide) ?_
            refine k_aload_n 105 106 C dX4_follow_105 rfl 4 rfl ?_
            refine k_getF 106 109 C dX4_follow_106 rfl ci_X4 0 fl_X4_7 (IsMdl.o ‹_›) (by decide) (IsMdl.f0 ‹_›) rfl ?_
            refine k_iconst 109 110 C dX4_follow_109 rfl (v := 5) rfl ?_
            refine k_lald 110 111 C dX4_follow_110 rfl (IsMdl.a0 ‹_›) (vp_in_nI (n := 5) (by decide) (by decide)) ?_
            refine k_rwL (y := f 5) (hf2 5 (by decide)) ?_
            refine k_lconst 111 112 C dX4_follow_111 rfl (v := 1) rfl ?_
            refine k_callVV 112 115 C [_, _, _, _, _] [] dX4_follow_112 rfl (ct_X4_plus hz2 hM) mi_X4_plus ml_X4_107 im_X4_plus se_X4_plus ci_X4 (IsMdl.o ‹_›) rfl rfl ⟨Nat.le_of_ble_eq_true rfl, Nat.le_of_ble_eq_true rfl⟩ (Nat.le_of_ble_eq_true rfl) (Nat.zero_le _) (Nat.zero_le _) (fun V112 p112 => ?_)
            refine k_goto 115 124 C dX4_follow_115 (by decide) ?_
            refine k_vret 124 C dX4_follow_124 rfl ?_
            first
              | (rw [p112, tl_tl]; unfold folN folD; rw [if_pos (i64_not_le.mp h41), if_pos (i64_not_le.mp h41)]; done)
              | (rw [p112, tl_tl]; unfold folN folD; rw [if_neg (i64_not_lt.mpr h41), if_pos (i64_not_le.mp h68), if_neg (i64_not_lt.mpr h41), if_pos (i64_not_le.mp h68)]; done)
              | (rw [p121, tl_tl]; unfold folN folD; rw [if_neg (i64_not_lt.mpr h41), if_neg (i64_not_lt.mpr h68), if_neg (i64_not_lt.mpr h41), if_neg (i64_not_lt.mpr h68)]; done)
              | exact absurd rfl h80 | exact absurd rfl h85 | exact absurd rfl h95 | exact absurd h80 (by decide) | exact absurd h85 (by decide) | exact absurd h95 (by decide)
  · refine k_iconst 44 45 C dX4_follow_44 rfl (v := 1) rfl ?_
    refine k_goto 45 49 C dX4_follow_45 (by decide) ?_
    refine k_istore 49 51 C [(9, _), (7, _), (5, _), (0, _), (1, _), (3, _)] dX4_follow_49 rfl (by decide) rfl ?_
    refine k_aload_n 51 52 C dX4_follow_51 rfl 3 rfl ?_
    refine k_get 52 55 C dX4_follow_52 rfl ci_X4 6 fl_X4_46 (IsMdl.o ‹_›) (by decide) rfl ?_
    refine k_rwL (y := folU x y z u) tl6 ?_
    refine k_lneg 55 56 C dX4_follow_55 rfl  ?_
    refine k_aload_n 56 57 C dX4_follow_56 rfl 3 rfl ?_
    refine k_getF 57 60 C dX4_follow_57 rfl ci_X4 0 fl_X4_7 (IsMdl.o ‹_›) (by decide) (IsMdl.f0 ‹_›) rfl ?_
    refine k_iconst 60 61 C dX4_follow_60 rfl (v := 5) rfl ?_
    refine k_lald 61 62 C dX4_follow_61 rfl (IsMdl.a0 ‹_›) (vp_in_nI (n := 5) (by decide) (by decide)) ?_
    refine k_rwL (y := f 5) (hf2 5 (by decide)) ?_
    refine k_aload_n 62 63 C dX4_follow_62 rfl 3 rfl ?_
    refine k_get 63 66 C dX4_follow_63 rfl ci_X4 7 fl_X4_50 (IsMdl.o ‹_›) (by decide) rfl ?_
    refine k_rwL (y := folV x y z u) tl7 ?_
    refine k_lmul 66 67 C dX4_follow_66 rfl  ?_
    refine k_lcmp_le 67 68 75 71 C dX4_follow_67 rfl dX4_follow_68 (by decide) rfl (fun h68 => ?_) (fun h68 => ?_)
    · refine k_iconst 75 76 C dX4_follow_75 rfl (v := 0) rfl ?_
      refine k_istore 76 78 C [(10, _), (9, _), (7, _), (5, _), (0, _), (1, _), (3, _)] dX4_follow_76 rfl (by decide) rfl ?_
      refine k_iload 78 80 C dX4_follow_78 rfl 1 rfl ?_
      refine k_if_ne 80 88 83 C dX4_follow_80 (by decide) rfl (fun h80 => ?_) (fun h80 => ?_)
      · refine k_aload_n 88 89 C dX4_follow_88 rfl 4 rfl ?_
        refine k_lload 89 91 C dX4_follow_89 rfl 3 rfl ?_
        refine k_lload 91 93 C dX4_follow_91 rfl 2 rfl ?_
        refine k_iload 93 95 C dX4_follow_93 rfl 1 rfl ?_
        refine k_if_eq 95 104 98 C dX4_follow_95 (by decide) rfl (fun h95 => ?_) (fun h95 => ?_)
        · refine k_lconst 104 105 C dX4_follow_104 rfl (v := 1) rfl ?_
          refine k_aload_n 105 106 C dX4_follow_105 rfl 4 rfl ?_
          refine k_getF 106 109 C dX4_follow_106 rfl ci_X4 0 fl_X4_7 (IsMdl.o ‹_›) (by decide) (IsMdl.f0 ‹_›) rfl ?_
          refine k_iconst 109 110 C dX4_follow_109 rfl (v := 5) rfl ?_
          refine k_lald 110 111 C dX4_follow_110 rfl (IsMdl.a0 ‹_›) (vp_in_nI (n := 5) (by decide) (by decide)) ?_
          refine k_rwL (y := f 5) (hf2 5 (by decide)) ?_
          refine k_lconst 111 112 C dX4_follow_111 rfl (v := 1) rfl ?_
          refine k_callVV 112 115 C [_, _, _, _, _] [] dX4_follow_112 rfl (ct_X4_plus hz2 hM) mi_X4_plus ml_X4_107 im_X4_plus se_X4_plus ci_X4 (IsMdl.o ‹_›) rfl rfl ⟨Nat.le_of_ble_eq_true rfl, Nat.le_of_ble_eq_true rfl⟩ (Nat.le_of_ble_eq_true rfl) (Nat.zero_le _) (Nat.zero_le _) (fun V112 p112 => ?_)
          refine k_goto 115 124 C dX4_follow_115 (by decide) ?_
          refine k_vret 124 C dX4_follow_124 rfl ?_
          first
            | (rw [p112, tl_tl]; unfold folN folD; rw [if_pos (i64_not_le.mp h41), if_pos (i64_not_le.mp h41)]; done)
            | (rw [p112, tl_tl]; unfold folN folD; rw [if_neg (i64_not_lt.mpr h41), if_pos (i64_not_le.mp h68), if_neg (i64_not_lt.mpr h41), if_pos (i64_not_le.mp h68)]; done)
            | (rw [p121, tl_tl]; unfold folN folD; rw [if_neg (i64_not_lt.mpr h41), if_neg (i64_not_lt.mpr h68), if_neg (i64_not_lt.mpr h41), if_neg (i64_not_lt.mpr h68)]; done)
            | exact absurd rfl h80 | exact absurd rfl h85 | exact absurd rfl h95 | exact absurd h80 (by decide) | exact absurd h85 (by decide) | exact absurd h95 (by decide)
        · refine k_ldc2 98 101 C dX4_follow_98 rfl kl_X4_96 ?_
          refine k_goto 101 105 C dX4_follow_101 (by decide) ?_
          refine k_aload_n 105 106 C dX4_follow_105 rfl 4 rfl ?_
          refine k_getF 106 109 C dX4_follow_106 rfl ci_X4 0 fl_X4_7 (IsMdl.o ‹_›) (by decide) (IsMdl.f0 ‹_›) rfl ?_
          refine k_iconst 109 110 C dX4_follow_109 rfl (v := 5) rfl ?_
          refine k_lald 110 111 C dX4_follow_110 rfl (IsMdl.a0 ‹_›) (vp_in_nI (n := 5) (by decide) (by decide)) ?_
          refine k_rwL (y := f 5) (hf2 5 (by decide)) ?_
          refine k_lconst 111 112 C dX4_follow_111 rfl (v := 1) rfl ?_
          refine k_callVV 112 115 C [_, _, _, _, _] [] dX4_follow_112 rfl (ct_X4_plus hz2 hM) mi_X4_plus ml_X4_107 im_X4_plus se_X4_plus ci_X4 (IsMdl.o ‹_›) rfl rfl ⟨Nat.le_of_ble_eq_true rfl, Nat.le_of_ble_eq_true rfl⟩ (Nat.le_of_ble_eq_true rfl) (Nat.zero_le _) (Nat.zero_le _) (fun V112 p112 => ?_)
          refine k_goto 115 124 C dX4_follow_115 (by decide) ?_
          refine k_vret 124 C dX4_follow_124 rfl ?_
          first
            | (rw [p112, tl_tl]; unfold folN folD; rw [if_pos (i64_not_le.mp h41), if_pos (i64_not_le.mp h41)]; done)
            | (rw [p112, tl_tl]; unfold folN folD; rw [if_neg (i64_not_lt.mpr h41), if_pos (i64_not_le.mp h68), if_neg (i64_not_lt.mpr h41), if_pos (i64_not_le.mp h68)]; done)
            | (rw [p121, tl_tl]; unfold folN folD; rw [if_neg (i64_not_lt.mpr h41), if_neg (i64_not_lt.mpr h68), if_neg (i64_not_lt.mpr h41), if_neg (i64_not_lt.mpr h68)]; done)
            | exact absurd rfl h80 | exact absurd rfl h85 | exact absurd rfl h95 | exact absurd h80 (by decide) | exact absurd h85 (by decide) | exact absurd h95 (by decide)
      · refine k_iload 83 85 C dX4_follow_83 rfl 0 rfl ?_
        refine k_if_eq 85 118 88 C dX4_follow_85 (by decide) rfl (fun h85 => ?_) (fun h85 => ?_)
        · refine k_aload_n 118 119 C dX4_follow_118 rfl 4 rfl ?_
          refine k_lload_n 119 120 C dX4_follow_119 rfl 5 rfl ?_
          refine k_lload_n 120 121 C dX4_follow_120 rfl 6 rfl ?_
          refine k_callVV 121 124 C [_, _] [] dX4_follow_121 rfl (ct_X4_reduce hM) mi_X4_reduce ml_X4_53 im_X4_reduce se_X4_reduce ci_X4 (IsMdl.o ‹_›) rfl rfl ⟨Nat.le_of_ble_eq_true rfl, Nat.le_of_ble_eq_true rfl⟩ (Nat.le_of_ble_eq_true rfl) (Nat.zero_le _) (Nat.zero_le _) (fun V121 p121 => ?_)
          refine k_vret 124 C dX4_follow_124 rfl ?_
          first
            | (rw [p112, tl_tl]; unfold folN folD; rw [if_pos (i64_not_le.mp h41), if_pos (i64_not_le.mp h41)]; done)
            | (rw [p112, tl_tl]; unfold folN folD; rw [if_neg (i64_not_lt.mpr h41), if_pos (i64_not_le.mp h68), if_neg (i64_not_lt.mpr h41), if_pos (i64_not_le.mp h68)]; done)
            | (rw [p121, tl_tl]; unfold folN folD; rw [if_neg (i64_not_lt.mpr h41), if_neg (i64_not_lt.mpr h68), if_neg (i64_not_lt.mpr h41), if_neg (i64_not_lt.mpr h68)]; done)
            | exact absurd rfl h80 | exact absurd rfl h85 | exact absurd rfl h95 | exact absurd h80 (by decide) | exact absurd h85 (by decide) | exact absurd h95 (by decide)
        · refine k_aload_n 88 89 C dX4_follow_88 rfl 4 rfl ?_
          refine k_lload 89 91 C dX4_follow_89 rfl 3 rfl ?_
          refine k_lload 91 93 C dX4_follow_91 rfl 2 rfl ?_
          refine k_iload 93 95 C dX4_follow_93 rfl 1 rfl ?_
          refine k_if_eq 95 104 98 C dX4_follow_95 (by decide) rfl (fun h95 => ?_) (fun h95 => ?_)
          · refine k_lconst 104 105 C dX4_follow_104 rfl (v := 1) rfl ?_
            refine k_aload_n 105 106 C dX4_follow_105 rfl 4 rfl ?_
            refine k_getF 106 109 C dX4_follow_106 rfl ci_X4 0 fl_X4_7 (IsMdl.o ‹_›) (by decide) (IsMdl.f0 ‹_›) rfl ?_
            refine k_iconst 109 110 C dX4_follow_109 rfl (v := 5) rfl ?_
            refine k_lald 110 111 C dX4_follow_110 rfl (IsMdl.a0 ‹_›) (vp_in_nI (n := 5) (by decide) (by decide)) ?_
            refine k_rwL (y := f 5) (hf2 5 (by decide)) ?_
            refine k_lconst 111 112 C dX4_follow_111 rfl (v := 1) rfl ?_
            refine k_callVV 112 115 C [_, _, _, _, _] [] dX4_follow_112 rfl (ct_X4_plus hz2 hM) mi_X4_plus ml_X4_107 im_X4_plus se_X4_plus ci_X4 (IsMdl.o ‹_›) rfl rfl ⟨Nat.le_of_ble_eq_true rfl, Nat.le_of_ble_eq_true rfl⟩ (Nat.le_of_ble_eq_true rfl) (Nat.zero_le _) (Nat.zero_le _) (fun V112 p112 => ?_)
            refine k_goto 115 124 C dX4_follow_115 (by decide) ?_
            refine k_vret 124 C dX4_follow_124 rfl ?_
            first
              | (rw [p112, tl_tl]; unfold folN folD; rw [if_pos (i64_not_le.mp h41), if_pos (i64_not_le.mp h41)]; done)
              | (rw [p112, tl_tl]; unfold folN folD; rw [if_neg (i64_not_lt.mpr h41), if_pos (i64_not_le.mp h68), if_neg (i64_not_lt.mpr h41), if_pos (i64_not_le.mp h68)]; done)
              | (rw [p121, tl_tl]; unfold folN folD; rw [if_neg (i64_not_lt.mpr h41), if_neg (i64_not_lt.mpr h68), if_neg (i64_not_lt.mpr h41), if_neg (i64_not_lt.mpr h68)]; done)
              | exact absurd rfl h80 | exact absurd rfl h85 | exact absurd rfl h95 | exact absurd h80 (by decide) | exact absurd h85 (by decide) | exact absurd h95 (by decide)
          · refine k_ldc2 98 101 C dX4_follow_98 rfl kl_X4_96 ?_
            refine k_goto 101 105 C dX4_follow_101 (by decide) ?_
            refine k_aload_n 105 106 C dX4_follow_105 rfl 4 rfl ?_
            refine k_getF 106 109 C dX4_follow_106 rfl ci_X4 0 fl_X4_7 (IsMdl.o ‹_›) (by decide) (IsMdl.f0 ‹_›) rfl ?_
            refine k_iconst 109 110 C dX4_follow_109 rfl (v := 5) rfl ?_
            refine k_lald 110 111 C dX4_follow_110 rfl (IsMdl.a0 ‹_›) (vp_in_nI (n := 5) (by decide) (by decide)) ?_
            refine k_rwL (y := f 5) (hf2 5 (by decide)) ?_
            refine k_lconst 111 112 C dX4_follow_111 rfl (v := 1) rfl ?_
            refine k_callVV 112 115 C [_, _, _, _, _] [] dX4_follow_112 rfl (ct_X4_plus hz2 hM) mi_X4_plus ml_X4_107 im_X4_plus se_X4_plus ci_X4 (IsMdl.o ‹_›) rfl rfl ⟨Nat.le_of_ble_eq_true rfl, Nat.le_of_ble_eq_true rfl⟩ (Nat.le_of_ble_eq_true rfl) (Nat.zero_le _) (Nat.zero_le _) (fun V112 p112 => ?_)
            refine k_goto 115 124 C dX4_follow_115 (by decide) ?_
            refine k_vret 124 C dX4_follow_124 rfl ?_
            first
              | (rw [p112, tl_tl]; unfold folN folD; rw [if_pos (i64_not_le.mp h41), if_pos (i64_not_le.mp h41)]; done)
              | (rw [p112, tl_tl]; unfold folN folD; rw [if_neg (i64_not_lt.mpr h41), if_pos (i64_not_le.mp h68), if_neg (i64_not_lt.mpr h41), if_pos (i64_not_le.mp h68)]; done)
              | (rw [p121, tl_tl]; unfold folN folD; rw [if_neg (i64_not_lt.mpr h41), if_neg (i64_not_lt.mpr h68), if_neg (i64_not_lt.mpr h41), if_neg (i64_not_lt.mpr h68)]; done)
              | exact absurd rfl h80 | exact absurd rfl h85 | exact absurd rfl h95 | exact absurd h80 (by decide) | exact absurd h85 (by decide) | exact absurd h95 (by decide)
    · refine k_iconst 71 72 C dX4_follow_71 rfl (v := 1) rfl ?_
      refine k_goto 72 76 C dX4_follow_72 (by decide) ?_
      refine k_istore 76 78 C [(10, _), (9, _), (7, _), (5, _), (0, _), (1, _), (3, _)] dX4_follow_76 rfl (by decide) rfl ?_
      refine k_iload 78 80 C dX4_follow_78 rfl 1 rfl ?_
      refine k_if_ne 80 88 83 C dX4_follow_80 (by decide) rfl (fun h80 => ?_) (fun h80 => ?_)
      · refine k_aload_n 88 89 C dX4_follow_88 rfl 4 rfl ?_
        refine k_lload 89 91 C dX4_follow_89 rfl 3 rfl ?_
        refine k_lload 91 93 C dX4_follow_91 rfl 2 rfl ?_
        refine k_iload 93 95 C dX4_follow_93 rfl 1 rfl ?_
        refine k_if_eq 95 104 98 C dX4_follow_95 (by decide) rfl (fun h95 => ?_) (fun h95 => ?_)
        · refine k_lconst 104 105 C dX4_follow_104 rfl (v := 1) rfl ?_
          refine k_aload_n 105 106 C dX4_follow_105 rfl 4 rfl ?_
          refine k_getF 106 109 C dX4_follow_106 rfl ci_X4 0 fl_X4_7 (IsMdl.o ‹_›) (by decide) (IsMdl.f0 ‹_›) rfl ?_
          refine k_iconst 109 110 C dX4_follow_109 rfl (v := 5) rfl ?_
          refine k_lald 110 111 C dX4_follow_110 rfl (IsMdl.a0 ‹_›) (vp_in_nI (n := 5) (by decide) (by decide)) ?_
          refine k_rwL (y := f 5) (hf2 5 (by decide)) ?_
          refine k_lconst 111 112 C dX4_follow_111 rfl (v := 1) rfl ?_
          refine k_callVV 112 115 C [_, _, _, _, _] [] dX4_follow_112 rfl (ct_X4_plus hz2 hM) mi_X4_plus ml_X4_107 im_X4_plus se_X4_plus ci_X4 (IsMdl.o ‹_›) rfl rfl ⟨Nat.le_of_ble_eq_true rfl, Nat.le_of_ble_eq_true rfl⟩ (Nat.le_of_ble_eq_true rfl) (Nat.zero_le _) (Nat.zero_le _) (fun V112 p112 => ?_)
          refine k_goto 115 124 C dX4_follow_115 (by decide) ?_
          refine k_vret 124 C dX4_follow_124 rfl ?_
          first
            | (rw [p112, tl_tl]; unfold folN folD; rw [if_pos (i64_not_le.mp h41), if_pos (i64_not_le.mp h41)]; done)
            | (rw [p112, tl_tl]; unfold folN folD; rw [if_neg (i64_not_lt.mpr h41), if_pos (i64_not_le.mp h68), if_neg (i64_not_lt.mpr h41), if_pos (i64_not_le.mp h68)]; done)
            | (rw [p121, tl_tl]; unfold folN folD; rw [if_neg (i64_not_lt.mpr h41), if_neg (i64_not_lt.mpr h68), if_neg (i64_not_lt.mpr h41), if_neg (i64_not_lt.mpr h68)]; done)
            | exact absurd rfl h80 | exact absurd rfl h85 | exact absurd rfl h95 | exact absurd h80 (by decide) | exact absurd h85 (by decide) | exact absurd h95 (by decide)
        · refine k_ldc2 98 101 C dX4_follow_98 rfl kl_X4_96 ?_
          refine k_goto 101 105 C dX4_follow_101 (by decide) ?_
          refine k_aload_n 105 106 C dX4_follow_105 rfl 4 rfl ?_
          refine k_getF 106 109 C dX4_follow_106 rfl ci_X4 0 fl_X4_7 (IsMdl.o ‹_›) (by decide) (IsMdl.f0 ‹_›) rfl ?_
          refine k_iconst 109 110 C dX4_follow_109 rfl (v := 5) rfl ?_
          refine k_lald 110 111 C dX4_follow_110 rfl (IsMdl.a0 ‹_›) (vp_in_nI (n := 5) (by decide) (by decide)) ?_
          refine k_rwL (y := f 5) (hf2 5 (by decide)) ?_
          refine k_lconst 111 112 C dX4_follow_111 rfl (v := 1) rfl ?_
          refine k_callVV 112 115 C [_, _, _, _, _] [] dX4_follow_112 rfl (ct_X4_plus hz2 hM) mi_X4_plus ml_X4_107 im_X4_plus se_X4_plus ci_X4 (IsMdl.o ‹_›) rfl rfl ⟨Nat.le_of_ble_eq_true rfl, Nat.le_of_ble_eq_true rfl⟩ (Nat.le_of_ble_eq_true rfl) (Nat.zero_le _) (Nat.zero_le _) (fun V112 p112 => ?_)
          refine k_goto 115 124 C dX4_follow_115 (by decide) ?_
          refine k_vret 124 C dX4_follow_124 rfl ?_
          first
            | (rw [p112, tl_tl]; unfold folN folD; rw [if_pos (i64_not_le.mp h41), if_pos (i64_not_le.mp h41)]; done)
            | (rw [p112, tl_tl]; unfold folN folD; rw [if_neg (i64_not_lt.mpr h41), if_pos (i64_not_le.mp h68), if_neg (i64_not_lt.mpr h41), if_pos (i64_not_le.mp h68)]; done)
            | (rw [p121, tl_tl]; unfold folN folD; rw [if_neg (i64_not_lt.mpr h41), if_neg (i64_not_lt.mpr h68), if_neg (i64_not_lt.mpr h41), if_neg (i64_not_lt.mpr h68)]; done)
            | exact absurd rfl h80 | exact absurd rfl h85 | exact absurd rfl h95 | exact absurd h80 (by decide) | exact absurd h85 (by decide) | exact absurd h95 (by decide)
      · refine k_iload 83 85 C dX4_follow_83 rfl 0 rfl ?_
        refine k_if_eq 85 118 88 C dX4_follow_85 (by decide) rfl (fun h85 => ?_) (fun h85 => ?_)
        · refine k_aload_n 118 119 C dX4_follow_118 rfl 4 rfl ?_
          refine k_lload_n 119 120 C dX4_follow_119 rfl 5 rfl ?_
          refine k_lload_n 120 121 C dX4_follow_120 rfl 6 rfl ?_
          refine k_callVV 121 124 C [_, _] [] dX4_follow_121 rfl (ct_X4_reduce hM) mi_X4_reduce ml_X4_53 im_X4_reduce se_X4_reduce ci_X4 (IsMdl.o ‹_›) rfl rfl ⟨Nat.le_of_ble_eq_true rfl, Nat.le_of_ble_eq_true rfl⟩ (Nat.le_of_ble_eq_true rfl) (Nat.zero_le _) (Nat.zero_le _) (fun V121 p121 => ?_)
          refine k_vret 124 C dX4_follow_124 rfl ?_
          first
            | (rw [p112, tl_tl]; unfold folN folD; rw [if_pos (i64_not_le.mp h41), if_pos (i64_not_le.mp h41)]; done)
            | (rw [p112, tl_tl]; unfold folN folD; rw [if_neg (i64_not_lt.mpr h41), if_pos (i64_not_le.mp h68), if_neg (i64_not_lt.mpr h41), if_pos (i64_not_le.mp h68)]; done)
            | (rw [p121, tl_tl]; unfold folN folD; rw [if_neg (i64_not_lt.mpr h41), if_neg (i64_not_lt.mpr h68), if_neg (i64_not_lt.mpr h41), if_neg (i64_not_lt.mpr h68)]; done)
            | exact absurd rfl h80 | exact absurd rfl h85 | exact absurd rfl h95 | exact absurd h80 (by decide) | exact absurd h85 (by decide) | exact absurd h95 (by decide)
        · refine k_aload_n 88 89 C dX4_follow_88 rfl 4 rfl ?_
          refine k_lload 89 91 C dX4_follow_89 rfl 3 rfl ?_
          refine k_lload 91 93 C dX4_follow_91 rfl 2 rfl ?_
          refine k_iload 93 95 C dX4_follow_93 rfl 1 rfl ?_
          refine k_if_eq 95 104 98 C dX4_follow_95 (by decide) rfl (fun h95 => ?_) (fun h95 => ?_)
          · refine k_lconst 104 105 C dX4_follow_104 rfl (v := 1) rfl ?_
            refine k_aload_n 105 106 C dX4_follow_105 rfl 4 rfl ?_
            refine k_getF 106 109 C dX4_follow_106 rfl ci_X4 0 fl_X4_7 (IsMdl.o ‹_›) (by decide) (IsMdl.f0 ‹_›) rfl ?_
            refine k_iconst 109 110 C dX4_follow_109 rfl (v := 5) rfl ?_
            refine k_lald 110 111 C dX4_follow_110 rfl (IsMdl.a0 ‹_›) (vp_in_nI (n := 5) (by decide) (by decide)) ?_
            refine k_rwL (y := f 5) (hf2 5 (by decide)) ?_
            refine k_lconst 111 112 C dX4_follow_111 rfl (v := 1) rfl ?_
            refine k_callVV 112 115 C [_, _, _, _, _] [] dX4_follow_112 rfl (ct_X4_plus hz2 hM) mi_X4_plus ml_X4_107 im_X4_plus se_X4_plus ci_X4 (IsMdl.o ‹_›) rfl rfl ⟨Nat.le_of_ble_eq_true rfl, Nat.le_of_ble_eq_true rfl⟩ (Nat.le_of_ble_eq_true rfl) (Nat.zero_le _) (Nat.zero_le _) (fun V112 p112 => ?_)
            refine k_goto 115 124 C dX4_follow_115 (by decide) ?_
            refine k_vret 124 C dX4_follow_124 rfl ?_
            first
              | (rw [p112, tl_tl]; unfold folN folD; rw [if_pos (i64_not_le.mp h41), if_pos (i64_not_le.mp h41)]; done)
              | (rw [p112, tl_tl]; unfold folN folD; rw [if_neg (i64_not_lt.mpr h41), if_pos (i64_not_le.mp h68), if_neg (i64_not_lt.mpr h41), if_pos (i64_not_le.mp h68)]; done)
              | (rw [p121, tl_tl]; unfold folN folD; rw [if_neg (i64_not_lt.mpr h41), if_neg (i64_not_lt.mpr h68), if_neg (i64_not_lt.mpr h41), if_neg (i64_not_lt.mpr h68)]; done)
              | exact absurd rfl h80 | exact absurd rfl h85 | exact absurd rfl h95 | exact absurd h80 (by decide) | exact absurd h85 (by decide) | exact absurd h95 (by decide)
          · refine k_ldc2 98 101 C dX4_follow_98 rfl kl_X4_96 ?_
            refine k_goto 101 105 C dX4_follow_101 (by decide) ?_
            refine k_aload_n 105 106 C dX4_follow_105 rfl 4 rfl ?_
            refine k_getF 106 109 C dX4_follow_106 rfl ci_X4 0 fl_X4_7 (IsMdl.o ‹_›) (by decide) (IsMdl.f0 ‹_›) rfl ?_
            refine k_iconst 109 110 C dX4_follow_109 rfl (v := 5) rfl ?_
            refine k_lald 110 111 C dX4_follow_110 rfl (IsMdl.a0 ‹_›) (vp_in_nI (n := 5) (by decide) (by decide)) ?_
            refine k_rwL (y := f 5) (hf2 5 (by decide)) ?_
            refine k_lconst 111 112 C dX4_follow_111 rfl (v := 1) rfl ?_
            refine k_callVV 112 115 C [_, _, _, _, _] [] dX4_follow_112 rfl (ct_X4_plus hz2 hM) mi_X4_plus ml_X4_107 im_X4_plus se_X4_plus ci_X4 (IsMdl.o ‹_›) rfl rfl ⟨Nat.le_of_ble_eq_true rfl, Nat.le_of_ble_eq_true rfl⟩ (Nat.le_of_ble_eq_true rfl) (Nat.zero_le _) (Nat.zero_le _) (fun V112 p112 => ?_)
            refine k_goto 115 124 C dX4_follow_115 (by decide) ?_
            refine k_vret 124 C dX4_follow_124 rfl ?_
            first
              | (rw [p112, tl_tl]; unfold folN folD; rw [if_pos (i64_not_le.mp h41), if_pos (i64_not_le.mp h41)]; done)
              | (rw [p112, tl_tl]; unfold folN folD; rw [if_neg (i64_not_lt.mpr h41), if_pos (i64_not_le.mp h68), if_neg (i64_not_lt.mpr h41), if_pos (i64_not_le.mp h68)]; done)
              | (rw [p121, tl_tl]; unfold folN folD; rw [if_neg (i64_not_lt.mpr h41), if_neg (i64_not_lt.mpr h68), if_neg (i64_not_lt.mpr h41), if_neg (i64_not_lt.mpr h68)]; done)
              | exact absurd rfl h80 | exact absurd rfl h85 | exact absurd rfl h95 | exact absurd h80 (by decide) | exact absurd h85 (by decide) | exact absurd h95 (by decide)
