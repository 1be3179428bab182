/-! a drawing as a record: parent, scale, parts, signs, shifts, number of points, places, lines -/
abbrev Dr : Type := Int32 × Int64 × Int64 × Int32 × Int32 × Int64 × Int64 × Nat × (Nat → Int64) × (Nat → Int64) × (Nat → Int32)
def rpa (d : Dr) : Int32 := d.1
def rsc (d : Dr) : Int64 := d.2.1
def rpt (d : Dr) : Int64 := d.2.2.1
def rsx (d : Dr) : Int32 := d.2.2.2.1
def rsy (d : Dr) : Int32 := d.2.2.2.2.1
def rhx (d : Dr) : Int64 := d.2.2.2.2.2.1
def rhy (d : Dr) : Int64 := d.2.2.2.2.2.2.1
def rn (d : Dr) : Nat := d.2.2.2.2.2.2.2.1
def rX (d : Dr) : Nat → Int64 := d.2.2.2.2.2.2.2.2.1
def rY (d : Dr) : Nat → Int64 := d.2.2.2.2.2.2.2.2.2.1
def rl (d : Dr) : Nat → Int32 := d.2.2.2.2.2.2.2.2.2.2
def DV (V : gV) (a : Nat) (d : Dr) : Prop := V.1 a 0 = rpa d ∧ V.2.1 a 1 = rsc d ∧ V.2.1 a 2 = rpt d ∧ V.1 a 3 = rsx d ∧ V.1 a 4 = rsy d ∧ V.2.1 a 5 = rhx d ∧ V.2.1 a 6 = rhy d ∧ V.1 a 7 = nI (rn d) ∧ rn d ≤ 20 ∧ ∀ i, i < rn d → V.2.1 (a + 1) i = rX d i ∧ V.2.1 (a + 2) i = rY d i ∧ V.1 (a + 3) i = rl d i
section DVS
variable {V : gV} {a : Nat} {d : Dr}
theorem DV.f0 (h : DV V a d) : V.1 a 0 = rpa d := h.1
theorem DV.f1 (h : DV V a d) : V.2.1 a 1 = rsc d := h.2.1
theorem DV.f2 (h : DV V a d) : V.2.1 a 2 = rpt d := h.2.2.1
theorem DV.f3 (h : DV V a d) : V.1 a 3 = rsx d := h.2.2.2.1
theorem DV.f4 (h : DV V a d) : V.1 a 4 = rsy d := h.2.2.2.2.1
theorem DV.f5 (h : DV V a d) : V.2.1 a 5 = rhx d := h.2.2.2.2.2.1
theorem DV.f6 (h : DV V a d) : V.2.1 a 6 = rhy d := h.2.2.2.2.2.2.1
theorem DV.f7 (h : DV V a d) : V.1 a 7 = nI (rn d) := h.2.2.2.2.2.2.2.1
theorem DV.le (h : DV V a d) : rn d ≤ 20 := h.2.2.2.2.2.2.2.2.1
theorem DV.x (h : DV V a d) {i : Nat} (hi : i < rn d) : V.2.1 (a + 1) i = rX d i := (h.2.2.2.2.2.2.2.2.2 i hi).1
theorem DV.y (h : DV V a d) {i : Nat} (hi : i < rn d) : V.2.1 (a + 2) i = rY d i := (h.2.2.2.2.2.2.2.2.2 i hi).2.1
theorem DV.l (h : DV V a d) {i : Nat} (hi : i < rn d) : V.1 (a + 3) i = rl d i := (h.2.2.2.2.2.2.2.2.2 i hi).2.2
end DVS
/-- outside of lo .. hi nothing changed -/
def Off (V V' : gV) (lo hi : Nat) : Prop := ∀ b : Nat, (b < lo ∨ hi ≤ b) → V'.1 b = V.1 b ∧ V'.2.1 b = V.2.1 b ∧ V'.2.2 b = V.2.2 b
theorem Off.rf {V : gV} {lo hi : Nat} : Off V V lo hi := fun _ _ => ⟨rfl, rfl, rfl⟩
theorem Off.wI {V V' : gV} {lo hi a k : Nat} {x : Int32} (h : Off V V' lo hi) (h1 : lo ≤ a) (h2 : a < hi) : Off V (wI V' a k x) lo hi := by
  intro b hb
  obtain ⟨e1, e2, e3⟩ := h b hb
  obtain ⟨g1, g2, g3⟩ := wI_off (V := V') (k := k) (x := x) b (a := a) (by omega)
  exact ⟨g1.trans e1, g2.trans e2, g3.trans e3⟩
theorem Off.wL {V V' : gV} {lo hi a k : Nat} {x : Int64} (h : Off V V' lo hi) (h1 : lo ≤ a) (h2 : a < hi) : Off V (wL V' a k x) lo hi := by
  intro b hb
  obtain ⟨e1, e2, e3⟩ := h b hb
  obtain ⟨g1, g2, g3⟩ := wL_off (V := V') (k := k) (x := x) b (a := a) (by omega)
  exact ⟨g1.trans e1, g2.trans e2, g3.trans e3⟩
theorem Off.wR {V V' : gV} {lo hi a k : Nat} {x : Option Nat} (h : Off V V' lo hi) (h1 : lo ≤ a) (h2 : a < hi) : Off V (wR V' a k x) lo hi := by
  intro b hb
  obtain ⟨e1, e2, e3⟩ := h b hb
  obtain ⟨g1, g2, g3⟩ := wR_off (V := V') (k := k) (x := x) b (a := a) (by omega)
  exact ⟨g1.trans e1, g2.trans e2, g3.trans e3⟩
theorem Off.trans {V V' V'' : gV} {lo hi : Nat} (h : Off V V' lo hi) (h2 : Off V' V'' lo hi) : Off V V'' lo hi := by
  intro b hb
  obtain ⟨e1, e2, e3⟩ := h b hb
  obtain ⟨g1, g2, g3⟩ := h2 b hb
  exact ⟨g1.trans e1, g2.trans e2, g3.trans e3⟩
theorem Off.wide {V V' : gV} {lo hi lo' hi' : Nat} (h : Off V V' lo hi) (h1 : lo' ≤ lo) (h2 : hi ≤ hi') : Off V V' lo' hi' := fun b hb => h b (by omega)
theorem DV.off {V V' : gV} {a lo hi : Nat} {d : Dr} (hd : DV V a d) (h : Off V V' lo hi) (hb : a + 4 ≤ lo ∨ hi ≤ a) : DV V' a d := by
  obtain ⟨e1, e2, -⟩ := h a (by omega)
  obtain ⟨-, g2, -⟩ := h (a + 1) (by omega)
  obtain ⟨-, k2, -⟩ := h (a + 2) (by omega)
  obtain ⟨l1, -, -⟩ := h (a + 3) (by omega)
  unfold DV
  rw [e1, e2, g2, k2, l1]
  exact hd
/-! what the calls of a drawing answer -/
def vX (d : Dr) (p : Int32) : Int64 := if ¬ p < 0 ∧ ¬ nI (rn d) ≤ p then rX d p.toNatClampNeg else 0
def vY (d : Dr) (p : Int32) : Int64 := if ¬ p < 0 ∧ ¬ nI (rn d) ≤ p then rY d p.toNatClampNeg else 0
def vL (d : Dr) (p : Int32) : Int32 := if ¬ p < 0 ∧ ¬ nI (rn d) ≤ p then rl d p.toNatClampNeg else -1
def vW (d : Dr) (p : Int32) : Int32 := if vL d p < 0 then 0 else vL d p
def absl (x : Int64) : Int64 := if 0 < x then x else -x
def quo (x y : Int64) : Int64 := if y ≤ 0 then 0 else x / y
def vLen (d : Dr) (p : Int32) : Int32 := (quo (absl (vX d p - vX d (p - 1)) + absl (vY d p - vY d (p - 1))) (rpt d)).toInt32
theorem v_idx {n : Nat} (hn : n ≤ 20) {p : Int32} (h : ¬ p < 0 ∧ ¬ nI n ≤ p) : p.toNatClampNeg < n ∧ ¬ 20 ≤ p := by
  obtain ⟨h0, h1⟩ := h
  obtain ⟨j, hj, rfl⟩ := nI_of h0
  rw [nI_leI (by omega) hj] at h1
  refine ⟨by rw [nI_clamp hj]; omega, fun z => ?_⟩
  have z' : nI 20 ≤ nI j := z
  rw [nI_leI (by omega) hj] at z'
  omega

set_option maxHeartbeats 4000000 in
set_option maxRecDepth 100000 in
theorem ct_X3_isWithin {E : gE} {T : gT} {l : Launch} {V : gV} {a b d : Int32} : CtI E T l yX3_isWithin (gw yX3_isWithin cX3_isWithin 3 (some .boolean)) { frames := 0, cells := 0, slots := 0, locals := 0 } [.int a, .int b, .int d] V (fun (r : Int32) (V' : gV) => V' = V ∧ r = bi (¬ a < b ∧ ¬ d < a)) := by
  refine ctI_of (L := [(0, .int a), (1, .int b), (2, .int d)]) (by decide) rfl (Nat.le_of_ble_eq_true rfl) rfl (fun p e s m args below meth c C => ?_)
  refine k_iload_n 0 1 C dX3_isWithin_0 rfl 0 rfl ?_
  refine k_iload_n 1 2 C dX3_isWithin_1 rfl 1 rfl ?_
  refine k_icmp_lt 2 14 5 C dX3_isWithin_2 (by decide) rfl (fun h2 => ?_) (fun h2 => ?_)
  · refine k_iconst 14 15 C dX3_isWithin_14 rfl (v := 0) rfl ?_
    refine k_zret 15 C dX3_isWithin_15 rfl (by first | exact Or.inl rfl | exact Or.inr rfl | exact bi_01) ?_
    exact ⟨rfl, by simp [bi, h2]⟩
  · refine k_iload_n 5 6 C dX3_isWithin_5 rfl 0 rfl ?_
    refine k_iload_n 6 7 C dX3_isWithin_6 rfl 2 rfl ?_
    refine k_icmp_gt 7 14 10 C dX3_isWithin_7 (by decide) rfl (fun h7 => ?_) (fun h7 => ?_)
    · refine k_iconst 14 15 C dX3_isWithin_14 rfl (v := 0) rfl ?_
      refine k_zret 15 C dX3_isWithin_15 rfl (by first | exact Or.inl rfl | exact Or.inr rfl | exact bi_01) ?_
      exact ⟨rfl, by simp [bi, h2, h7]⟩
    · refine k_iconst 10 11 C dX3_isWithin_10 rfl (v := 1) rfl ?_
      refine k_goto 11 15 C dX3_isWithin_11 (by decide) ?_
      refine k_zret 15 C dX3_isWithin_15 rfl (by first | exact Or.inl rfl | exact Or.inr rfl | exact bi_01) ?_
      exact ⟨rfl, by simp [bi, h2, h7]⟩
set_option maxHeartbeats 4000000 in
set_option maxRecDepth 100000 in
theorem ct_X3_quotient {E : gE} {T : gT} {l : Launch} {V : gV} {a b : Int64} : CtL E T l yX3_quotient (gw yX3_quotient cX3_quotient 4 (some .long)) { frames := 0, cells := 0, slots := 0, locals := 0 } [.long a, .long b] V (fun (r : Int64) (V' : gV) => V' = V ∧ r = quo a b) := by
  refine ctL_of (L := [(0, .long a), (2, .long b)]) (by decide) rfl (Nat.le_of_ble_eq_true rfl) rfl (fun p e s m args below meth c C => ?_)
  refine k_lload_n 0 1 C dX3_quotient_0 rfl 1 rfl ?_
  refine k_lconst 1 2 C dX3_quotient_1 rfl (v := 0) rfl ?_
  refine k_lcmp_le 2 3 12 6 C dX3_quotient_2 rfl dX3_quotient_3 (by decide) rfl (fun h3 => ?_) (fun h3 => ?_)
  · refine k_lconst 12 13 C dX3_quotient_12 rfl (v := 0) rfl ?_
    refine k_lret 13 C dX3_quotient_13 rfl ?_
    exact ⟨rfl, by simp [quo, h3]⟩
  · refine k_lload_n 6 7 C dX3_quotient_6 rfl 0 rfl ?_
    refine k_lload_n 7 8 C dX3_quotient_7 rfl 1 rfl ?_
    refine k_ldiv 8 9 C dX3_quotient_8 rfl (fun z => h3 (by rw [z]; decide)) ?_
    refine k_goto 9 13 C dX3_quotient_9 (by decide) ?_
    refine k_lret 13 C dX3_quotient_13 rfl ?_
    exact ⟨rfl, by simp [quo, h3]⟩
set_option maxHeartbeats 4000000 in
set_option maxRecDepth 100000 in
theorem ct_X2_isDigit {E : gE} {T : gT} {l : Launch} {V : gV} {a : Int32} : CtI E T l yX2_isDigit (gw yX2_isDigit cX2_isDigit 1 (some .boolean)) { frames := 0, cells := 0, slots := 0, locals := 0 } [.int a] V (fun (r : Int32) (V' : gV) => V' = V ∧ r = bi (¬ a < 48 ∧ ¬ 57 < a)) := by
  refine ctI_of (L := [(0, .int a)]) (by decide) rfl (Nat.le_of_ble_eq_true rfl) rfl (fun p e s m args below meth c C => ?_)
  refine k_iload_n 0 1 C dX2_isDigit_0 rfl 0 rfl ?_
  refine k_bipush 1 3 C dX2_isDigit_1 rfl (v := 48) rfl ?_
  refine k_icmp_lt 3 16 6 C dX2_isDigit_3 (by decide) rfl (fun h3 => ?_) (fun h3 => ?_)
  · refine k_iconst 16 17 C dX2_isDigit_16 rfl (v := 0) rfl ?_
    refine k_zret 17 C dX2_isDigit_17 rfl (by first | exact Or.inl rfl | exact Or.inr rfl | exact bi_01) ?_
    exact ⟨rfl, by simp [bi, h3]⟩
  · refine k_iload_n 6 7 C dX2_isDigit_6 rfl 0 rfl ?_
    refine k_bipush 7 9 C dX2_isDigit_7 rfl (v := 57) rfl ?_
    refine k_icmp_gt 9 16 12 C dX2_isDigit_9 (by decide) rfl (fun h9 => ?_) (fun h9 => ?_)
    · refine k_iconst 16 17 C dX2_isDigit_16 rfl (v := 0) rfl ?_
      refine k_zret 17 C dX2_isDigit_17 rfl (by first | exact Or.inl rfl | exact Or.inr rfl | exact bi_01) ?_
      exact ⟨rfl, by simp [bi, h3, h9]⟩
    · refine k_iconst 12 13 C dX2_isDigit_12 rfl (v := 1) rfl ?_
      refine k_goto 13 17 C dX2_isDigit_13 (by decide) ?_
      refine k_zret 17 C dX2_isDigit_17 rfl (by first | exact Or.inl rfl | exact Or.inr rfl | exact bi_01) ?_
      exact ⟨rfl, by simp [bi, h3, h9]⟩
set_option maxHeartbeats 4000000 in
set_option maxRecDepth 100000 in
theorem ct_X1_has {E : gE} {T : gT} {l : Launch} {V : gV} {i : Int32} {a : Nat} {d : Dr} (ha : IsDrw T a) (hd : DV V a d) : CtI E T l yX1_has (gw yX1_has cX1_has 2 (some .boolean)) { frames := 0, cells := 0, slots := 0, locals := 0 } [.ref a, .int i] V (fun (r : Int32) (V' : gV) => V' = V ∧ r = bi (¬ i < 0 ∧ ¬ nI (rn d) ≤ i)) := by
  refine ctI_of (L := [(0, .ref a), (1, .int i)]) (by decide) rfl (Nat.le_of_ble_eq_true rfl) rfl (fun p e s m args below meth c C => ?_)
  refine k_iload_n 0 1 C dX1_has_0 rfl 1 rfl ?_
  refine k_if_lt 1 16 4 C dX1_has_1 (by decide) rfl (fun h1 => ?_) (fun h1 => ?_)
  · refine k_iconst 16 17 C dX1_has_16 rfl (v := 0) rfl ?_
    refine k_zret 17 C dX1_has_17 rfl (by first | exact Or.inl rfl | exact Or.inr rfl | exact bi_01) ?_
    exact ⟨rfl, by simp [bi, h1]⟩
  · refine k_iload_n 4 5 C dX1_has_4 rfl 1 rfl ?_
    refine k_aload_n 5 6 C dX1_has_5 rfl 0 rfl ?_
    refine k_get 6 9 C dX1_has_6 rfl ci_X1 7 fl_X1_34 (IsDrw.o ‹_›) (by decide) rfl ?_
    refine k_rwI (DV.f7 ‹_›) ?_
    refine k_icmp_ge 9 16 12 C dX1_has_9 (by decide) rfl (fun h9 => ?_) (fun h9 => ?_)
    · refine k_iconst 16 17 C dX1_has_16 rfl (v := 0) rfl ?_
      refine k_zret 17 C dX1_has_17 rfl (by first | exact Or.inl rfl | exact Or.inr rfl | exact bi_01) ?_
      exact ⟨rfl, by simp [bi, h1, h9]⟩
    · refine k_iconst 12 13 C dX1_has_12 rfl (v := 1) rfl ?_
      refine k_goto 13 17 C dX1_has_13 (by decide) ?_
      refine k_zret 17 C dX1_has_17 rfl (by first | exact Or.inl rfl | exact Or.inr rfl | exact bi_01) ?_
      exact ⟨rfl, by simp [bi, h1, h9]⟩
set_option maxHeartbeats 4000000 in
set_option maxRecDepth 100000 in
theorem ct_X1_x {E : gE} {T : gT} {l : Launch} {V : gV} {i : Int32} {a : Nat} {d : Dr} (ha : IsDrw T a) (hd : DV V a d) : CtL E T l yX1_x (gw yX1_x cX1_x 2 (some .long)) { frames := 1, cells := 0, slots := 0, locals := 21 } [.ref a, .int i] V (fun (r : Int64) (V' : gV) => V' = V ∧ r = vX d i) := by
  refine ctL_of (L := [(0, .ref a), (1, .int i)]) (by decide) rfl (Nat.le_of_ble_eq_true rfl) rfl (fun p e s m args below meth c C => ?_)
  refine k_aload_n 0 1 C dX1_x_0 rfl 0 rfl ?_
  refine k_iload_n 1 2 C dX1_x_1 rfl 1 rfl ?_
  refine k_callVI 2 5 C [_] [] dX1_x_2 rfl (ct_X1_has ‹_› ‹_›) mi_X1_has ml_X1_67 im_X1_has se_X1_has ci_X1 (IsDrw.o ‹_›) rfl rfl ⟨Nat.le_of_ble_eq_true rfl, Nat.le_of_ble_eq_true rfl⟩ (Nat.le_of_ble_eq_true rfl) (Nat.zero_le _) (Nat.zero_le _) (fun r2 V2 p2 => ?_)
  obtain ⟨rfl, rfl⟩ := And.intro p2.1.symm p2.2
  refine k_ifb_eq 5 26 8 C dX1_x_5 (by decide) rfl (fun h5 => ?_) (fun h5 => ?_)
  · refine k_lconst 26 27 C dX1_x_26 rfl (v := 0) rfl ?_
    refine k_lret 27 C dX1_x_27 rfl ?_
    first | exact ⟨rfl, (if_neg h5).symm⟩ | exact ⟨rfl, (if_pos h5).symm⟩
  · refine k_iload_n 8 9 C dX1_x_8 rfl 1 rfl ?_
    refine k_aload_n 9 10 C dX1_x_9 rfl 0 rfl ?_
    refine k_getF 10 13 C dX1_x_10 rfl ci_X1 8 fl_X1_37 (IsDrw.o ‹_›) (by decide) (IsDrw.f8 ‹_›) rfl ?_
    refine k_alen 13 14 C dX1_x_13 rfl (IsDrw.a8 ‹_›) (by decide) (v := 20) rfl ?_
    refine k_icmp_ge 14 26 17 C dX1_x_14 (by decide) rfl (fun h14 => ?_) (fun h14 => ?_)
    · exact absurd h14 (v_idx hd.le h5).2
    · refine k_aload_n 17 18 C dX1_x_17 rfl 0 rfl ?_
      refine k_getF 18 21 C dX1_x_18 rfl ci_X1 8 fl_X1_37 (IsDrw.o ‹_›) (by decide) (IsDrw.f8 ‹_›) rfl ?_
      refine k_iload_n 21 22 C dX1_x_21 rfl 1 rfl ?_
      refine k_lald 22 23 C dX1_x_22 rfl (IsDrw.a8 ‹_›) (vi_of (by decide) h5.1 (v_idx hd.le h5).2) ?_
      refine k_rwL (hd.x (v_idx hd.le h5).1) ?_
      refine k_goto 23 27 C dX1_x_23 (by decide) ?_
      refine k_lret 27 C dX1_x_27 rfl ?_
      first | exact ⟨rfl, (if_neg h5).symm⟩ | exact ⟨rfl, (if_pos h5).symm⟩
set_option maxHeartbeats 4000000 in
set_option maxRecDepth 100000 in
theorem ct_X1_y {E : gE} {T : gT} {l : Launch} {V : gV} {i : Int32} {a : Nat} {d : Dr} (ha : IsDrw T a) (hd : DV V a d) : CtL E T l yX1_y (gw yX1_y cX1_y 2 (some .long)) { frames := 1, cells := 0, slots := 0, locals := 21 } [.ref a, .int i] V (fun (r : Int64) (V' : gV) => V' = V ∧ r = vY d i) := by
  refine ctL_of (L := [(0, .ref a), (1, .int i)]) (by decide) rfl (Nat.le_of_ble_eq_true rfl) rfl (fun p e s m args below meth c C => ?_)
  refine k_aload_n 0 1 C dX1_y_0 rfl 0 rfl ?_
  refine k_iload_n 1 2 C dX1_y_1 rfl 1 rfl ?_
  refine k_callVI 2 5 C [_] [] dX1_y_2 rfl (ct_X1_has ‹_› ‹_›) mi_X1_has ml_X1_67 im_X1_has se_X1_has ci_X1 (IsDrw.o ‹_›) rfl rfl ⟨Nat.le_of_ble_eq_true rfl, Nat.le_of_ble_eq_true rfl⟩ (Nat.le_of_ble_eq_true rfl) (Nat.zero_le _) (Nat.zero_le _) (fun r2 V2 p2 => ?_)
  obtain ⟨rfl, rfl⟩ := And.intro p2.1.symm p2.2
  refine k_ifb_eq 5 26 8 C dX1_y_5 (by decide) rfl (fun h5 => ?_) (fun h5 => ?_)
  · refine k_lconst 26 27 C dX1_y_26 rfl (v := 0) rfl ?_
    refine k_lret 27 C dX1_y_27 rfl ?_
    first | exact ⟨rfl, (if_neg h5).symm⟩ | exact ⟨rfl, (if_pos h5).symm⟩
  · refine k_iload_n 8 9 C dX1_y_8 rfl 1 rfl ?_
    refine k_aload_n 9 10 C dX1_y_9 rfl 0 rfl ?_
    refine k_getF 10 13 C dX1_y_10 rfl ci_X1 9 fl_X1_41 (IsDrw.o ‹_›) (by decide) (IsDrw.f9 ‹_›) rfl ?_
    refine k_alen 13 14 C dX1_y_13 rfl (IsDrw.a9 ‹_›) (by decide) (v := 20) rfl ?_
    refine k_icmp_ge 14 26 17 C dX1_y_14 (by decide) rfl (fun h14 => ?_) (fun h14 => ?_)
    · exact absurd h14 (v_idx hd.le h5).2
    · refine k_aload_n 17 18 C dX1_y_17 rfl 0 rfl ?_
      refine k_getF 18 21 C dX1_y_18 rfl ci_X1 9 fl_X1_41 (IsDrw.o ‹_›) (by decide) (IsDrw.f9 ‹_›) rfl ?_
      refine k_iload_n 21 22 C dX1_y_21 rfl 1 rfl ?_
      refine k_lald 22 23 C dX1_y_22 rfl (IsDrw.a9 ‹_›) (vi_of (by decide) h5.1 (v_idx hd.le h5).2) ?_
      refine k_rwL (hd.y (v_idx hd.le h5).1) ?_
      refine k_goto 23 27 C dX1_y_23 (by decide) ?_
      refine k_lret 27 C dX1_y_27 rfl ?_
      first | exact ⟨rfl, (if_neg h5).symm⟩ | exact ⟨rfl, (if_pos h5).symm⟩
set_option maxHeartbeats 4000000 in
set_option maxRecDepth 100000 in
theorem ct_X1_line {E : gE} {T : gT} {l : Launch} {V : gV} {i : Int32} {a : Nat} {d : Dr} (ha : IsDrw T a) (hd : DV V a d) : CtI E T l yX1_line (gw yX1_line cX1_line 2 (some .int)) { frames := 1, cells := 0, slots := 0, locals := 21 } [.ref a, .int i] V (fun (r : Int32) (V' : gV) => V' = V ∧ r = vL d i) := by
  refine ctI_of (L := [(0, .ref a), (1, .int i)]) (by decide) rfl (Nat.le_of_ble_eq_true rfl) rfl (fun p e s m args below meth c C => ?_)
  refine k_aload_n 0 1 C dX1_line_0 rfl 0 rfl ?_
  refine k_iload_n 1 2 C dX1_line_1 rfl 1 rfl ?_
  refine k_callVI 2 5 C [_] [] dX1_line_2 rfl (ct_X1_has ‹_› ‹_›) mi_X1_has ml_X1_67 im_X1_has se_X1_has ci_X1 (IsDrw.o ‹_›) rfl rfl ⟨Nat.le_of_ble_eq_true rfl, Nat.le_of_ble_eq_true rfl⟩ (Nat.le_of_ble_eq_true rfl) (Nat.zero_le _) (Nat.zero_le _) (fun r2 V2 p2 => ?_)
  obtain ⟨rfl, rfl⟩ := And.intro p2.1.symm p2.2
  refine k_ifb_eq 5 26 8 C dX1_line_5 (by decide) rfl (fun h5 => ?_) (fun h5 => ?_)
  · refine k_iconst 26 27 C dX1_line_26 rfl (v := (-1)) rfl ?_
    refine k_iret 27 C dX1_line_27 rfl ?_
    first | exact ⟨rfl, (if_neg h5).symm⟩ | exact ⟨rfl, (if_pos h5).symm⟩
  · refine k_iload_n 8 9 C dX1_line_8 rfl 1 rfl ?_
    refine k_aload_n 9 10 C dX1_line_9 rfl 0 rfl ?_
    refine k_getF 10 13 C dX1_line_10 rfl ci_X1 10 fl_X1_44 (IsDrw.o ‹_›) (by decide) (IsDrw.f10 ‹_›) rfl ?_
    refine k_alen 13 14 C dX1_line_13 rfl (IsDrw.a10 ‹_›) (by decide) (v := 20) rfl ?_
    refine k_icmp_ge 14 26 17 C dX1_line_14 (by decide) rfl (fun h14 => ?_) (fun h14 => ?_)
    · exact absurd h14 (v_idx hd.le h5).2
    · refine k_aload_n 17 18 C dX1_line_17 rfl 0 rfl ?_
      refine k_getF 18 21 C dX1_line_18 rfl ci_X1 10 fl_X1_44 (IsDrw.o ‹_›) (by decide) (IsDrw.f10 ‹_›) rfl ?_
      refine k_iload_n 21 22 C dX1_line_21 rfl 1 rfl ?_
      refine k_iald 22 23 C dX1_line_22 rfl (IsDrw.a10 ‹_›) (vi_of (by decide) h5.1 (v_idx hd.le h5).2) ?_
      refine k_rwI (hd.l (v_idx hd.le h5).1) ?_
      refine k_goto 23 27 C dX1_line_23 (by decide) ?_
      refine k_iret 27 C dX1_line_27 rfl ?_
      first | exact ⟨rfl, (if_neg h5).symm⟩ | exact ⟨rfl, (if_pos h5).symm⟩
set_option maxHeartbeats 4000000 in
set_option maxRecDepth 100000 in
theorem ct_X1_isJoined {E : gE} {T : gT} {l : Launch} {V : gV} {i : Int32} {a : Nat} {d : Dr} (ha : IsDrw T a) (hd : DV V a d) : CtI E T l yX1_isJoined (gw yX1_isJoined cX1_isJoined 2 (some .boolean)) { frames := 2, cells := 0, slots := 0, locals := 42 } [.ref a, .int i] V (fun (r : Int32) (V' : gV) => V' = V ∧ r = bi (¬ vL d i = -1)) := by
  refine ctI_of (L := [(0, .ref a), (1, .int i)]) (by decide) rfl (Nat.le_of_ble_eq_true rfl) rfl (fun p e s m args below meth c C => ?_)
  refine k_aload_n 0 1 C dX1_isJoined_0 rfl 0 rfl ?_
  refine k_iload_n 1 2 C dX1_isJoined_1 rfl 1 rfl ?_
  refine k_callVI 2 5 C [_] [] dX1_isJoined_2 rfl (ct_X1_line ‹_› ‹_›) mi_X1_line ml_X1_59 im_X1_line se_X1_line ci_X1 (IsDrw.o ‹_›) rfl rfl ⟨Nat.le_of_ble_eq_true rfl, Nat.le_of_ble_eq_true rfl⟩ (Nat.le_of_ble_eq_true rfl) (Nat.zero_le _) (Nat.zero_le _) (fun r2 V2 p2 => ?_)
  obtain ⟨rfl, rfl⟩ := And.intro p2.1.symm p2.2
  refine k_iconst 5 6 C dX1_isJoined_5 rfl (v := (-1)) rfl ?_
  refine k_icmp_eq 6 13 9 C dX1_isJoined_6 (by decide) rfl (fun h6 => ?_) (fun h6 => ?_)
  · refine k_iconst 13 14 C dX1_isJoined_13 rfl (v := 0) rfl ?_
    refine k_zret 14 C dX1_isJoined_14 rfl (by first | exact Or.inl rfl | exact Or.inr rfl | exact bi_01) ?_
    exact ⟨rfl, by simp [bi, h6]⟩
  · refine k_iconst 9 10 C dX1_isJoined_9 rfl (v := 1) rfl ?_
    refine k_goto 10 14 C dX1_isJoined_10 (by decide) ?_
    refine k_zret 14 C dX1_isJoined_14 rfl (by first | exact Or.inl rfl | exact Or.inr rfl | exact bi_01) ?_
    exact ⟨rfl, by simp [bi, h6]⟩
set_option maxHeartbeats 4000000 in
set_option maxRecDepth 100000 in
theorem ct_X1_width {E : gE} {T : gT} {l : Launch} {V : gV} {i : Int32} {a : Nat} {d : Dr} (ha : IsDrw T a) (hd : DV V a d) : CtI E T l yX1_width (gw yX1_width cX1_width 2 (some .int)) { frames := 2, cells := 0, slots := 0, locals := 42 } [.ref a, .int i] V (fun (r : Int32) (V' : gV) => V' = V ∧ r = vW d i) := by
  refine ctI_of (L := [(0, .ref a), (1, .int i)]) (by decide) rfl (Nat.le_of_ble_eq_true rfl) rfl (fun p e s m args below meth c C => ?_)
  refine k_aload_n 0 1 C dX1_width_0 rfl 0 rfl ?_
  refine k_iload_n 1 2 C dX1_width_1 rfl 1 rfl ?_
  refine k_callVI 2 5 C [_] [] dX1_width_2 rfl (ct_X1_line ‹_› ‹_›) mi_X1_line ml_X1_59 im_X1_line se_X1_line ci_X1 (IsDrw.o ‹_›) rfl rfl ⟨Nat.le_of_ble_eq_true rfl, Nat.le_of_ble_eq_true rfl⟩ (Nat.le_of_ble_eq_true rfl) (Nat.zero_le _) (Nat.zero_le _) (fun r2 V2 p2 => ?_)
  obtain ⟨rfl, rfl⟩ := And.intro p2.1.symm p2.2
  refine k_iconst 5 6 C dX1_width_5 rfl (v := 0) rfl ?_
  refine k_max 6 9 C dX1_width_6 rfl ml_X1_71 (Nat.le_of_ble_eq_true rfl) (Nat.le_of_ble_eq_true rfl) (Nat.zero_le _) (Nat.zero_le _) ?_
  refine k_iret 9 C dX1_width_9 rfl ?_
  exact ⟨rfl, by simp [vW, ]⟩
set_option maxHeartbeats 4000000 in
set_option maxRecDepth 100000 in
theorem ct_X1_isCopy {E : gE} {T : gT} {l : Launch} {V : gV} {a : Nat} {d : Dr} (ha : IsDrw T a) (hd : DV V a d) : CtI E T l yX1_isCopy (gw yX1_isCopy cX1_isCopy 1 (some .boolean)) { frames := 0, cells := 0, slots := 0, locals := 0 } [.ref a] V (fun (r : Int32) (V' : gV) => V' = V ∧ r = bi (¬ rpa d = -1)) := by
  refine ctI_of (L := [(0, .ref a)]) (by decide) rfl (Nat.le_of_ble_eq_true rfl) rfl (fun p e s m args below meth c C => ?_)
  refine k_aload_n 0 1 C dX1_isCopy_0 rfl 0 rfl ?_
  refine k_get 1 4 C dX1_isCopy_1 rfl ci_X1 0 fl_X1_9 (IsDrw.o ‹_›) (by decide) rfl ?_
  refine k_rwI (DV.f0 ‹_›) ?_
  refine k_iconst 4 5 C dX1_isCopy_4 rfl (v := (-1)) rfl ?_
  refine k_icmp_eq 5 12 8 C dX1_isCopy_5 (by decide) rfl (fun h5 => ?_) (fun h5 => ?_)
  · refine k_iconst 12 13 C dX1_isCopy_12 rfl (v := 0) rfl ?_
    refine k_zret 13 C dX1_isCopy_13 rfl (by first | exact Or.inl rfl | exact Or.inr rfl | exact bi_01) ?_
    exact ⟨rfl, by simp [bi, h5]⟩
  · refine k_iconst 8 9 C dX1_isCopy_8 rfl (v := 1) rfl ?_
    refine k_goto 9 13 C dX1_isCopy_9 (by decide) ?_
    refine k_zret 13 C dX1_isCopy_13 rfl (by first | exact Or.inl rfl | exact Or.inr rfl | exact bi_01) ?_
    exact ⟨rfl, by simp [bi, h5]⟩
set_option maxHeartbeats 4000000 in
set_option maxRecDepth 100000 in
theorem ct_X1_isFull {E : gE} {T : gT} {l : Launch} {V : gV} {a : Nat} {d : Dr} (ha : IsDrw T a) (hd : DV V a d) : CtI E T l yX1_isFull (gw yX1_isFull cX1_isFull 1 (some .boolean)) { frames := 0, cells := 0, slots := 0, locals := 0 } [.ref a] V (fun (r : Int32) (V' : gV) => V' = V ∧ r = bi (¬ nI (rn d) < 20)) := by
  refine ctI_of (L := [(0, .ref a)]) (by decide) rfl (Nat.le_of_ble_eq_true rfl) rfl (fun p e s m args below meth c C => ?_)
  refine k_aload_n 0 1 C dX1_isFull_0 rfl 0 rfl ?_
  refine k_get 1 4 C dX1_isFull_1 rfl ci_X1 7 fl_X1_34 (IsDrw.o ‹_›) (by decide) rfl ?_
  refine k_rwI (DV.f7 ‹_›) ?_
  refine k_bipush 4 6 C dX1_isFull_4 rfl (v := 20) rfl ?_
  refine k_icmp_lt 6 13 9 C dX1_isFull_6 (by decide) rfl (fun h6 => ?_) (fun h6 => ?_)
  · refine k_iconst 13 14 C dX1_isFull_13 rfl (v := 0) rfl ?_
    refine k_zret 14 C dX1_isFull_14 rfl (by first | exact Or.inl rfl | exact Or.inr rfl | exact bi_01) ?_
    exact ⟨rfl, by simp [bi, h6]⟩
  · refine k_iconst 9 10 C dX1_isFull_9 rfl (v := 1) rfl ?_
    refine k_goto 10 14 C dX1_isFull_10 (by decide) ?_
    refine k_zret 14 C dX1_isFull_14 rfl (by first | exact Or.inl rfl | exact Or.inr rfl | exact bi_01) ?_
    exact ⟨rfl, by simp [bi, h6]⟩
set_option maxHeartbeats 4000000 in
set_option maxRecDepth 100000 in
theorem ct_X1_lineLength {E : gE} {T : gT} {l : Launch} {V : gV} {i : Int32} {a : Nat} {d : Dr} (ha : IsDrw T a) (hd : DV V a d) : CtI E T l yX1_lineLength (gw yX1_lineLength cX1_lineLength 6 (some .int)) { frames := 2, cells := 0, slots := 0, locals := 42 } [.ref a, .int i] V (fun (r : Int32) (V' : gV) => V' = V ∧ r = vLen d i) := by
  refine ctI_of (L := [(0, .ref a), (1, .int i)]) (by decide) rfl (Nat.le_of_ble_eq_true rfl) rfl (fun p e s m args below meth c C => ?_)
  refine k_aload_n 0 1 C dX1_lineLength_0 rfl 0 rfl ?_
  refine k_iload_n 1 2 C dX1_lineLength_1 rfl 1 rfl ?_
  refine k_callVL 2 5 C [_] [] dX1_lineLength_2 rfl (ct_X1_x ‹_› ‹_›) mi_X1_x ml_X1_52 im_X1_x se_X1_x ci_X1 (IsDrw.o ‹_›) rfl rfl ⟨Nat.le_of_ble_eq_true rfl, Nat.le_of_ble_eq_true rfl⟩ (Nat.le_of_ble_eq_true rfl) (Nat.zero_le _) (Nat.zero_le _) (fun r2 V2 p2 => ?_)
  obtain ⟨rfl, rfl⟩ := And.intro p2.1.symm p2.2
  refine k_aload_n 5 6 C dX1_lineLength_5 rfl 0 rfl ?_
  refine k_iload_n 6 7 C dX1_lineLength_6 rfl 1 rfl ?_
  refine k_iconst 7 8 C dX1_lineLength_7 rfl (v := 1) rfl ?_
  refine k_isub 8 9 C dX1_lineLength_8 rfl  ?_
  refine k_callVL 9 12 C [_] [_] dX1_lineLength_9 rfl (ct_X1_x ‹_› ‹_›) mi_X1_x ml_X1_52 im_X1_x se_X1_x ci_X1 (IsDrw.o ‹_›) rfl rfl ⟨Nat.le_of_ble_eq_true rfl, Nat.le_of_ble_eq_true rfl⟩ (Nat.le_of_ble_eq_true rfl) (Nat.zero_le _) (Nat.zero_le _) (fun r9 V9 p9 => ?_)
  obtain ⟨rfl, rfl⟩ := And.intro p9.1.symm p9.2
  refine k_lsub 12 13 C dX1_lineLength_12 rfl  ?_
  refine k_absl 13 16 C dX1_lineLength_13 rfl ml_X1_77 (Nat.le_of_ble_eq_true rfl) (Nat.le_of_ble_eq_true rfl) (Nat.zero_le _) (Nat.zero_le _) ?_
  refine k_lstore_n 16 17 C [(2, _), (0, _), (1, _)] dX1_lineLength_16 rfl (by decide) rfl ?_
  refine k_aload_n 17 18 C dX1_lineLength_17 rfl 1 rfl ?_
  refine k_iload_n 18 19 C dX1_lineLength_18 rfl 2 rfl ?_
  refine k_callVL 19 22 C [_] [] dX1_lineLength_19 rfl (ct_X1_y ‹_› ‹_›) mi_X1_y ml_X1_56 im_X1_y se_X1_y ci_X1 (IsDrw.o ‹_›) rfl rfl ⟨Nat.le_of_ble_eq_true rfl, Nat.le_of_ble_eq_true rfl⟩ (Nat.le_of_ble_eq_true rfl) (Nat.zero_le _) (Nat.zero_le _) (fun r19 V19 p19 => ?_)
  obtain ⟨rfl, rfl⟩ := And.intro p19.1.symm p19.2
  refine k_aload_n 22 23 C dX1_lineLength_22 rfl 1 rfl ?_
  refine k_iload_n 23 24 C dX1_lineLength_23 rfl 2 rfl ?_
  refine k_iconst 24 25 C dX1_lineLength_24 rfl (v := 1) rfl ?_
  refine k_isub 25 26 C dX1_lineLength_25 rfl  ?_
  refine k_callVL 26 29 C [_] [_] dX1_lineLength_26 rfl (ct_X1_y ‹_› ‹_›) mi_X1_y ml_X1_56 im_X1_y se_X1_y ci_X1 (IsDrw.o ‹_›) rfl rfl ⟨Nat.le_of_ble_eq_true rfl, Nat.le_of_ble_eq_true rfl⟩ (Nat.le_of_ble_eq_true rfl) (Nat.zero_le _) (Nat.zero_le _) (fun r26 V26 p26 => ?_)
  obtain ⟨rfl, rfl⟩ := And.intro p26.1.symm p26.2
  refine k_lsub 29 30 C dX1_lineLength_29 rfl  ?_
  refine k_absl 30 33 C dX1_lineLength_30 rfl ml_X1_77 (Nat.le_of_ble_eq_true rfl) (Nat.le_of_ble_eq_true rfl) (Nat.zero_le _) (Nat.zero_le _) ?_
  refine k_lstore 33 35 C [(4, _), (2, _), (0, _), (1, _)] dX1_lineLength_33 rfl (by decide) rfl ?_
  refine k_lload_n 35 36 C dX1_lineLength_35 rfl 1 rfl ?_
  refine k_lload 36 38 C dX1_lineLength_36 rfl 0 rfl ?_
  refine k_ladd 38 39 C dX1_lineLength_38 rfl  ?_
  refine k_aload_n 39 40 C dX1_lineLength_39 rfl 2 rfl ?_
  refine k_get 40 43 C dX1_lineLength_40 rfl ci_X1 2 fl_X1_19 (IsDrw.o ‹_›) (by decide) rfl ?_
  refine k_rwL (DV.f2 ‹_›) ?_
  refine k_callSNL 43 46 C [_, _] [] dX1_lineLength_43 rfl ct_X3_quotient mi_X3_quotient mn_X1_81 st_X3_quotient rfl rfl ⟨Nat.le_of_ble_eq_true rfl, Nat.le_of_ble_eq_true rfl⟩ (Nat.le_of_ble_eq_true rfl) (Nat.zero_le _) (Nat.zero_le _) (fun r43 V43 p43 => ?_)
  obtain ⟨rfl, rfl⟩ := And.intro p43.1.symm p43.2
  refine k_l2i 46 47 C dX1_lineLength_46 rfl  ?_
  refine k_iret 47 C dX1_lineLength_47 rfl ?_
  exact ⟨rfl, rfl⟩
set_option maxHeartbeats 4000000 in
set_option maxRecDepth 100000 in
theorem ct_X1_xAtOnce {E : gE} {T : gT} {l : Launch} {V : gV} {x : Int64} {a : Nat} {d : Dr} (ha : IsDrw T a) (hd : DV V a d) : CtL E T l yX1_xAtOnce (gw yX1_xAtOnce cX1_xAtOnce 3 (some .long)) { frames := 0, cells := 0, slots := 0, locals := 0 } [.ref a, .long x] V (fun (r : Int64) (V' : gV) => V' = V ∧ r = rsc d * (rsx d).toInt64 * x + rhx d) := by
  refine ctL_of (L := [(0, .ref a), (1, .long x)]) (by decide) rfl (Nat.le_of_ble_eq_true rfl) rfl (fun p e s m args below meth c C => ?_)
  refine k_aload_n 0 1 C dX1_xAtOnce_0 rfl 0 rfl ?_
  refine k_get 1 4 C dX1_xAtOnce_1 rfl ci_X1 1 fl_X1_15 (IsDrw.o ‹_›) (by decide) rfl ?_
  refine k_rwL (DV.f1 ‹_›) ?_
  refine k_aload_n 4 5 C dX1_xAtOnce_4 rfl 0 rfl ?_
  refine k_get 5 8 C dX1_xAtOnce_5 rfl ci_X1 3 fl_X1_22 (IsDrw.o ‹_›) (by decide) rfl ?_
  refine k_rwI (DV.f3 ‹_›) ?_
  refine k_i2l 8 9 C dX1_xAtOnce_8 rfl  ?_
  refine k_lmul 9 10 C dX1_xAtOnce_9 rfl  ?_
  refine k_lload_n 10 11 C dX1_xAtOnce_10 rfl 1 rfl ?_
  refine k_lmul 11 12 C dX1_xAtOnce_11 rfl  ?_
  refine k_aload_n 12 13 C dX1_xAtOnce_12 rfl 0 rfl ?_
  refine k_get 13 16 C dX1_xAtOnce_13 rfl ci_X1 5 fl_X1_28 (IsDrw.o ‹_›) (by decide) rfl ?_
  refine k_rwL (DV.f5 ‹_›) ?_
  refine k_ladd 16 17 C dX1_xAtOnce_16 rfl  ?_
  refine k_lret 17 C dX1_xAtOnce_17 rfl ?_
  exact ⟨rfl, rfl⟩
set_option maxHeartbeats 4000000 in
set_option maxRecDepth 100000 in
theorem ct_X1_yAtOnce {E : gE} {T : gT} {l : Launch} {V : gV} {x : Int64} {a : Nat} {d : Dr} (ha : IsDrw T a) (hd : DV V a d) : CtL E T l yX1_yAtOnce (gw yX1_yAtOnce cX1_yAtOnce 3 (some .long)) { frames := 0, cells := 0, slots := 0, locals := 0 } [.ref a, .long x] V (fun (r : Int64) (V' : gV) => V' = V ∧ r = rsc d * (rsy d).toInt64 * x + rhy d) := by
  refine ctL_of (L := [(0, .ref a), (1, .long x)]) (by decide) rfl (Nat.le_of_ble_eq_true rfl) rfl (fun p e s m args below meth c C => ?_)
  refine k_aload_n 0 1 C dX1_yAtOnce_0 rfl 0 rfl ?_
  refine k_get 1 4 C dX1_yAtOnce_1 rfl ci_X1 1 fl_X1_15 (IsDrw.o ‹_›) (by decide) rfl ?_
  refine k_rwL (DV.f1 ‹_›) ?_
  refine k_aload_n 4 5 C dX1_yAtOnce_4 rfl 0 rfl ?_
  refine k_get 5 8 C dX1_yAtOnce_5 rfl ci_X1 4 fl_X1_25 (IsDrw.o ‹_›) (by decide) rfl ?_
  refine k_rwI (DV.f4 ‹_›) ?_
  refine k_i2l 8 9 C dX1_yAtOnce_8 rfl  ?_
  refine k_lmul 9 10 C dX1_yAtOnce_9 rfl  ?_
  refine k_lload_n 10 11 C dX1_yAtOnce_10 rfl 1 rfl ?_
  refine k_lmul 11 12 C dX1_yAtOnce_11 rfl  ?_
  refine k_aload_n 12 13 C dX1_yAtOnce_12 rfl 0 rfl ?_
  refine k_get 13 16 C dX1_yAtOnce_13 rfl ci_X1 6 fl_X1_31 (IsDrw.o ‹_›) (by decide) rfl ?_
  refine k_rwL (DV.f6 ‹_›) ?_
  refine k_ladd 16 17 C dX1_yAtOnce_16 rfl  ?_
  refine k_lret 17 C dX1_yAtOnce_17 rfl ?_
  exact ⟨rfl, rfl⟩
def cntW (d : Dr) : Nat → Nat
  | 0 => 0
  | j + 1 => cntW d j + (if 0 < vW d (nI j) then 1 else 0)
theorem cntW_le (d : Dr) : ∀ j, cntW d j ≤ j
  | 0 => Nat.le_refl 0
  | j + 1 => by have h := cntW_le d j; unfold cntW; split <;> omega
def sumW (d : Dr) : Nat → Int32
  | 0 => 0
  | j + 1 => if 0 < vW d (nI j) then sumW d j + vLen d (nI j) else sumW d j
def maxW (d : Dr) : Nat → Int32
  | 0 => 0
  | j + 1 => if maxW d j < vW d (nI j) then vW d (nI j) else maxW d j
theorem n20 {n j : Nat} (hn : n ≤ 20) (hj : j ≤ 20) : nI n ≤ nI j ↔ n ≤ j := nI_leI (by omega) (by omega)

