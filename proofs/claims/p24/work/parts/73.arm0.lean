theorem ExV.keep {V V' : gV} {D lo hi : Nat} (x : ExV V V' D) (h : hi ≤ D) : Keep V V' lo hi := fun b _ hb => x b (by omega)
def KeT (T T' : gT) (lo hi : Nat) : Prop := ∀ b, lo ≤ b → b < hi → T'.2.1 b = T.2.1 b ∧ T'.2.2 b = T.2.2 b
theorem KeT.fT {T : gT} {x j b lo hi : Nat} (h : x < lo) : KeT T (fT T x j b) lo hi := fun y hy _ => ⟨rfl, if_neg (by omega)⟩
theorem IsDrw.same {T T' : gT} {a : Nat} (h : IsDrw T a) (x : KeT T T' a (a + 4)) : IsDrw T' a := by
  obtain ⟨h1, h2, h3, h4, h5, h6, h7⟩ := h
  have e0 := x a (by omega) (by omega); have e1 := x (a + 1) (by omega) (by omega); have e2 := x (a + 2) (by omega) (by omega); have e3 := x (a + 3) (by omega) (by omega)
  unfold IsDrw tO tF tA
  rw [e0.1, e0.2, e1.1, e2.1, e3.1]
  exact ⟨h1, h2, h3, h4, h5, h6, h7⟩
theorem IsDsk.same {T T' : gT} {a : Nat} (h : IsDsk T a) (x : KeT T T' a (a + 27)) : IsDsk T' a := by
  obtain ⟨h1, h2, h3, h4, h5, h6⟩ := h
  have e0 := x a (by omega) (by omega); have e1 := x (a + 1) (by omega) (by omega); have e2 := x (a + 2) (by omega) (by omega)
  refine ⟨?_, ?_, ?_, ?_, ?_, fun j hj => (h6 j hj).same (fun b p q => x b (by omega) (by omega))⟩
  · unfold tO; rw [e0.1]; exact h1
  · unfold tF; rw [e0.2]; exact h2
  · unfold tA; rw [e1.1]; exact h3
  · unfold tF; rw [e0.2]; exact h4
  · unfold tA; rw [e2.1]; exact h5
theorem IsTxt.same {T T' : gT} {a : Nat} (h : IsTxt T a) (x : KeT T T' a (a + 5)) : IsTxt T' a := by
  obtain ⟨h1, h2, h3, h4, h5, h6, h7, h8, h9⟩ := h
  have e0 := x a (by omega) (by omega); have e1 := x (a + 1) (by omega) (by omega); have e2 := x (a + 2) (by omega) (by omega); have e3 := x (a + 3) (by omega) (by omega); have e4 := x (a + 4) (by omega) (by omega)
  unfold IsTxt tO tF tA
  rw [e0.1, e0.2, e1.1, e2.1, e3.1, e4.1]
  exact ⟨h1, h2, h3, h4, h5, h6, h7, h8, h9⟩
/-- the arm with so many of its past desks made -/
def ArmP (T : gT) (a i : Nat) : Prop := tO T a 3 ∧ tF T a 1 (a + 28) ∧ tA T (a + 28) 3 4 ∧ tF T a 3 (a + 29) ∧ IsTxt T (a + 29) ∧ IsDsk T (a + 1) ∧ ∀ j, j < i → IsDsk T (a + 34 + 27 * j)
theorem ArmP.ex {T T' : gT} {a i D : Nat} (h : ArmP T a i) (x : ExT T T' D) (h3 : a + 34 ≤ D) (ha : a + 34 + 27 * i ≤ D) : ArmP T' a i := ⟨tO_ex h.1 x (by omega), tF_ex h.2.1 x (by omega), tA_ex h.2.2.1 x (by omega), tF_ex h.2.2.2.1 x (by omega), h.2.2.2.2.1.ex x (by omega), h.2.2.2.2.2.1.ex x (by omega), fun j hj => (h.2.2.2.2.2.2 j hj).ex x (by omega)⟩
def ArmV (V : gV) (a i : Nat) : Prop := V.2.2 a 0 = some (a + 1) ∧ V.1 a 2 = 0 ∧ V.1 (a + 29) 1 = 0 ∧ DK V (a + 1) S0 (fun j => j) ∧ ∀ j, j < i → V.2.2 (a + 28) j = some (a + 34 + 27 * j) ∧ DK V (a + 34 + 27 * j) S0 (fun j => j)
theorem ArmV.ex {V V' : gV} {a i D : Nat} (h : ArmV V a i) (x : ExV V V' D) (h3 : a + 34 ≤ D) (ha : a + 34 + 27 * i ≤ D) : ArmV V' a i := by
  refine ⟨?_, ?_, ?_, h.2.2.2.1.same (x.keep (by omega)), fun j hj => ⟨?_, (h.2.2.2.2 j hj).2.same (x.keep (by omega))⟩⟩
  · rw [(x a (by omega)).2.2]; exact h.1
  · rw [(x a (by omega)).1]; exact h.2.1
  · rw [(x (a + 29) (by omega)).1]; exact h.2.2.1
  · rw [(x (a + 28) (by omega)).2.2]; exact (h.2.2.2.2 j hj).1
theorem ArmV.step {V : gV} {a i : Nat} (h : ArmV V a i) (d : DK V (a + 34 + 27 * i) S0 (fun j => j)) : ArmV (wR V (a + 28) i (some (a + 34 + 27 * i))) a (i + 1) := by
  have k : ∀ b : Nat, b ≠ a + 28 → (wR V (a + 28) i (some (a + 34 + 27 * i))).1 b = V.1 b ∧ (wR V (a + 28) i (some (a + 34 + 27 * i))).2.1 b = V.2.1 b ∧ (wR V (a + 28) i (some (a + 34 + 27 * i))).2.2 b = V.2.2 b := wR_off
  refine ⟨?_, ?_, ?_, h.2.2.2.1.same (fun b _ hb => k b (by omega)), fun j hj => ⟨?_, ?_⟩⟩
  · rw [(k a (by omega)).2.2]; exact h.1
  · exact h.2.1
  · exact h.2.2.1
  · by_cases e : j = i
    · subst e; simp [wR, va_up]
    · simp only [wR]
      first | rw [if_pos trivial, va_up_ne _ _ e] | rw [if_pos rfl, va_up_ne _ _ e]
      exact (h.2.2.2.2 j (by omega)).1
  · by_cases e : j = i
    · subst e; exact d.same (fun b h1 _ => k b (by omega))
    · exact (h.2.2.2.2 j (by omega)).2.same (fun b h1 _ => k b (by omega))
theorem ArmV.done {V : gV} {a : Nat} (h : ArmV V a 4) (H : Nat → Dk) : AVe V a S0 0 H := by
  refine ⟨0, fun k => k + 1, h.1, fun k hk => ?_, by omega, fun k hk => ⟨(by omega : k + 1 < 5), (by omega : k + 1 ≠ 0)⟩, fun i j _ _ e => (by have e' : i + 1 = j + 1 := e; omega), h.2.1, by omega, ⟨_, h.2.2.2.1⟩, fun k hk => absurd hk (Nat.not_lt_zero k), fun k hk => ⟨fun j => j, ?_⟩⟩
  · rw [(h.2.2.2.2 k hk).1]; show some (a + 34 + 27 * k) = some (dAd a (k + 1))
    unfold dAd; rw [if_neg (by omega)]; congr 1; omega
  · have z := (h.2.2.2.2 k hk).2.rows
    have q : dAd a (k + 1) = a + 34 + 27 * k := by unfold dAd; rw [if_neg (by omega)]; omega
    show DKr V (dAd a (k + 1)) _
    rw [q]; exact z
theorem ArmP.done {T : gT} {a : Nat} (h : ArmP T a 4) : IsAll T a := by
  refine ⟨⟨h.1, h.2.1, h.2.2.1, h.2.2.2.1, h.2.2.2.2.1⟩, fun r hr => ?_⟩
  unfold dAd
  by_cases e : r = 0
  · rw [if_pos e]; exact h.2.2.2.2.2.1
  · rw [if_neg e]
    have z := h.2.2.2.2.2.2 (r - 1) (by omega)
    have q : a + 34 + 27 * (r - 1) = a + 7 + 27 * r := by omega
    rw [q] at z; exact z
set_option maxHeartbeats 1000000 in
theorem X3_L {E : gE} {T : gT} {V : gV} {p : Program} {l : Launch} {e : Env} {R : Room} {s : State} {m : MethodId} {args : Array Value} {below : List Frame} {meth : Method} {c : Code} {ret : Option FieldType} {Q : State → Prop} (C : Cx E p s m args meth c yX3_init.cls cX3_init 2 ret) {a : Nat} (hr : 141 ≤ R.cells ∧ 2418 ≤ R.slots ∧ 3 ≤ R.frames ∧ 70 ≤ R.locals) (kk : ∀ (T2 : gT) (V2 : gV), T2.1 = a + 142 → ArmP T2 a 4 → ArmV V2 a 4 → ExT T T2 a → ExV V V2 a → KW E T2 V2 p l e R s m args below meth c 2 141 2418 Q 69 [(1, .int (nI 4)), (0, .ref a)] []) : ∀ (w i : Nat) (T1 : gT) (V1 : gV), i + w = 4 → T1.1 = a + 34 + 27 * i → ArmP T1 a i → ArmV V1 a i → ExT T T1 a → ExV V V1 a → KW E T1 V1 p l e R s m args below meth c 2 (33 + 27 * i) (622 + 449 * i) Q 41 [(1, .int (nI i)), (0, .ref a)] []
  | w, i, T1, V1, hw, hz, g, gv, hE, hV => by
    obtain ⟨r1, r2, r3, r4⟩ := hr
    refine k_iload_n 41 42 C dX3_init_41 rfl 0 rfl ?_
    refine k_aload_n 42 43 C dX3_init_42 rfl 1 rfl ?_
    refine k_getF 43 46 C dX3_init_43 rfl ci_X3 1 fl_X3_16 g.1 (by decide) g.2.1 rfl ?_
    refine k_alen 46 47 C dX3_init_46 rfl g.2.2.1 (by decide) (v := 4) rfl ?_
    refine k_icmp_ge 47 69 50 C dX3_init_47 (by decide) rfl (fun h => ?_) (fun h => ?_)
    · have h6 : 4 ≤ i := (n6 (n := 4) (by decide) (by omega)).mp h
      obtain rfl : i = 4 := by omega
      exact kk T1 V1 hz g gv hE hV
    · have h6 : ¬ 4 ≤ i := fun z => h ((n6 (n := 4) (by decide) (by omega)).mpr z)
      cases w with
      | zero => exact absurd hw (by omega)
      | succ w =>
      refine k_aload_n 50 51 C dX3_init_50 rfl 1 rfl ?_
      refine k_getF 51 54 C dX3_init_51 rfl ci_X3 1 fl_X3_16 g.1 (by decide) g.2.1 rfl ?_
      refine k_iload_n 54 55 C dX3_init_54 rfl 0 rfl ?_
      refine k_newO 55 58 C dX3_init_55 rfl ci_X0 cl_X3_7 ins_X0 ini_X0 nd_0 (by omega) (by omega) ?_
      rw [hz]
      have hk := tK_s (k := .inr 0) hz
      have hz2 := hz_n (k := .inr 0) hz
      have x1 : ExT T1 (nT T1 (.inr 0)) (a + 34 + 27 * i) := ExT.nT (Nat.le_of_eq hz.symm)
      have x2 := ExV.zV (V := V1) (q := a + 34 + 27 * i) (D := a + 34 + 27 * i) (Nat.le_refl _)
      refine k_dup 58 59 C dX3_init_58 rfl rfl ?_
      refine k_callIN 59 62 C dX3_init_59 rfl (ct_X0_init hz2 hk zV_s.1) mi_X0_init rfl ml_X3_9 im_X0_init ⟨r3, by omega⟩ (Nat.le_of_ble_eq_true rfl) (by omega) (by omega) (fun T3 V3 p3 => ?_)
      obtain ⟨z3, i3, d3, e3, y3⟩ := p3
      have x3 := x2.trans y3
      have e4 := x1.trans e3
      have g3 := g.ex e4 (by omega) (by omega)
      refine k_aast3 62 63 C dX3_init_62 rfl g3.2.2.1 i3.1 (vp_in_nI (by omega) (by decide)) ?_
      rw [nI_clamp (by omega)]
      refine k_iinc 63 66 C [(1, .int (nI (i + 1))), (0, .ref a)] (nI (i + 1)) dX3_init_63 rfl 0 rfl (nI_1 i) (by decide) rfl ?_
      refine k_goto 66 41 C dX3_init_66 (by decide) ?_
      refine KW.widen (show 33 + 27 * i + 1 + 26 ≤ 33 + 27 * (i + 1) by omega) (show 622 + 449 * i + 12 + 437 ≤ 622 + 449 * (i + 1) by omega) ?_
      refine X3_L C ⟨r1, r2, r3, r4⟩ kk w (i + 1) T3 _ (by omega) (by rw [z3]; omega) ⟨g3.1, g3.2.1, g3.2.2.1, g3.2.2.2.1, g3.2.2.2.2.1, g3.2.2.2.2.2.1, fun j hj => ?_⟩ ((gv.ex x3 (by omega) (by omega)).step d3) (hE.trans (e4.mono (by omega))) ((hV.trans (x3.mono (by omega))).trans (ExV.wR (by omega)))
      by_cases ej : j = i
      · subst ej; exact i3
      · exact g3.2.2.2.2.2.2 j (by omega)
set_option maxHeartbeats 4000000 in
set_option maxRecDepth 100000 in
theorem ct_X3_init {E : gE} {T : gT} {l : Launch} {V : gV} {a : Nat} (hz : T.1 = a + 1) (ho : tO T a 3) (hv : V.1 a = fun _ => 0) : CtN E T l yX3_init (gw yX3_init cX3_init 2 none) { frames := 3, cells := 141, slots := 2418, locals := 70 } [.ref a] V (fun (T2 : gT) (V2 : gV) => T2.1 = a + 142 ∧ IsAll T2 a ∧ (∀ H : Nat → Dk, AVe V2 a S0 0 H) ∧ V2.1 (a + 29) 1 = 0 ∧ ExT T T2 a ∧ ExV V V2 a) 141 2418 := by
  refine ctN_of (L := [(0, .ref a)]) (by decide) rfl (Nat.le_of_ble_eq_true rfl) rfl (fun p e s m args below meth c C hmn => ?_)
  refine k_aload_n 0 1 C dX3_init_0 rfl 0 rfl ?_
  refine k_objI 1 4 C dX3_init_1 rfl ml_X3_1 (Nat.le_of_ble_eq_true rfl) (Nat.le_of_ble_eq_true rfl) ?_
  refine k_aload_n 4 5 C dX3_init_4 rfl 0 rfl ?_
  refine k_newO 5 8 C dX3_init_5 rfl ci_X0 cl_X3_7 ins_X0 ini_X0 nd_0 (Nat.le_of_ble_eq_true rfl) (Nat.le_of_ble_eq_true rfl) ?_
  rw [hz]
  have x1 : ExT T (nT T (.inr 0)) (a + 1) := ExT.nT (Nat.le_of_eq hz.symm)
  have y1 := ExV.zV (V := V) (q := a + 1) (D := a + 1) (Nat.le_refl _)
  have hk := tK_s (k := .inr 0) hz
  have hz2 := hz_n (k := .inr 0) hz
  refine k_dup 8 9 C dX3_init_8 rfl rfl ?_
  refine k_callIN 9 12 C dX3_init_9 rfl (ct_X0_init hz2 hk zV_s.1) mi_X0_init rfl ml_X3_9 im_X0_init ⟨(Nat.le_of_ble_eq_true rfl), (Nat.le_of_ble_eq_true rfl)⟩ (Nat.le_of_ble_eq_true rfl) (Nat.le_of_ble_eq_true rfl) (Nat.le_of_ble_eq_true rfl) (fun T3 V3 p3 => ?_)
  obtain ⟨z3, i3, d3, e3, y3⟩ := p3
  have x3 := x1.trans e3
  have y3 := y1.trans y3
  have o3 := tO_ex ho x3 (by omega)
  have z3 : T3.1 = a + 28 := by rw [z3]
  refine k_put 12 15 C dX3_init_12 rfl ci_X3 0 fl_X3_10 o3 (by decide) rfl rfl rfl wR_off (ps_3_0 _ _ _ (some _)) ?_
  refine k_aload_n 15 16 C dX3_init_15 rfl 0 rfl ?_
  refine k_iconst 16 17 C dX3_init_16 rfl (v := 4) rfl ?_
  refine k_newQ 17 20 C 3 dX3_init_17 rfl cl_X3_7 C.ao0 rfl (fun _ => nc_3) (N := 4) (by decide) (by decide) (Nat.le_of_ble_eq_true rfl) (Nat.le_of_ble_eq_true rfl) (Nat.le_of_ble_eq_true rfl) ?_
  rw [z3]
  have hA := tK_s (k := .inl (3, 4)) z3
  have z4 := hz_n (k := .inl (3, 4)) z3
  have x4 : ExT T3 (nT T3 (.inl (3, 4))) (a + 28) := ExT.nT (Nat.le_of_eq z3.symm)
  have o4 := tO_ex o3 x4 (by omega)
  have i4 := i3.ex x4 (by omega)
  refine k_putF 20 23 C hmn dX3_init_20 rfl ci_X3 1 fl_X3_16 o4 (by decide) rfl rfl rfl rfl (pf_3_1 _ _ _ _) ?_
  have f1 := tF_s (a := a) (j := 1) (b := a + 28) z4
  have hA := tA_fT (x := a) (j := 1) (b := a + 28) hA
  have o4 := tO_fT (x := a) (j := 1) (b := a + 28) o4
  have z4 := hz_f (a := a) (j := 1) (b := a + 28) z4
  refine k_aload_n 23 24 C dX3_init_23 rfl 0 rfl ?_
  refine k_iconst 24 25 C dX3_init_24 rfl (v := 0) rfl ?_
  refine k_put 25 28 C dX3_init_25 rfl ci_X3 2 fl_X3_20 o4 (by decide) rfl rfl rfl wI_off (ps_3_2 _ _ _ _) ?_
  refine k_aload_n 28 29 C dX3_init_28 rfl 0 rfl ?_
  refine k_newO 29 32 C dX3_init_29 rfl ci_X2 cl_X3_24 ins_X2 ini_X2 nd_2 (Nat.le_of_ble_eq_true rfl) (Nat.le_of_ble_eq_true rfl) ?_
  rw [z4]
  have x5 := ExT.nT (k := .inr 2) (Nat.le_of_eq z4.symm)
  have hk5 := tK_s (k := .inr 2) z4
  have z5 := hz_n (k := .inr 2) z4
  refine k_dup 32 33 C dX3_init_32 rfl rfl ?_
  refine k_callIN 33 36 C dX3_init_33 rfl (ct_X2_init z5 hk5 zV_s.1) mi_X2_init rfl ml_X3_26 im_X2_init ⟨(Nat.le_of_ble_eq_true rfl), (Nat.le_of_ble_eq_true rfl)⟩ (Nat.le_of_ble_eq_true rfl) (Nat.le_of_ble_eq_true rfl) (Nat.le_of_ble_eq_true rfl) (fun T6 V6 p6 => ?_)
  obtain ⟨z6, i6, e6, y6, v6⟩ := p6
  have x6 := x5.trans e6
  have o6 := tO_ex o4 x6 (by omega)
  have f6 := tF_ex f1 x6 (by omega)
  have a6 := tA_ex hA x6 (by omega)
  have dk6 : IsDsk T6 (a + 1) := (i4.same (KeT.fT (x := a) (j := 1) (b := a + 28) (by omega))).ex x6 (by omega)
  have z6 : T6.1 = a + 34 := by rw [z6]
  refine k_putF 36 39 C hmn dX3_init_36 rfl ci_X3 3 fl_X3_27 o6 (by decide) rfl rfl rfl rfl (pf_3_3 _ _ _ _) ?_
  refine k_iconst 39 40 C dX3_init_39 rfl (v := 0) rfl ?_
  refine k_istore_n 40 41 C [(1, .int (nI 0)), (0, .ref a)] dX3_init_40 rfl (by decide) rfl ?_
  have k1 : ExT T T3 a := x3.mono (by omega)
  have k2 : ExT T3 (fT (nT T3 (.inl (3, 4))) a 1 (a + 28)) a := (x4.mono (by omega)).trans (ExT.fT (Nat.le_refl _))
  have k3 := (k1.trans k2).trans (x6.mono (by omega))
  have k4 : ExT T (fT T6 a 3 (a + 29)) a := k3.trans (ExT.fT (Nat.le_refl _))
  have m1 : ExV V V3 a := y3.mono (by omega)
  have m2 := m1.trans (ExV.wR (a := a) (k := 0) (x := some (a + 1)) (Nat.le_refl a))
  have m3 := m2.trans (ExV.zV (q := a + 28) (by omega))
  have m4 := m3.trans (ExV.wI (a := a) (k := 2) (x := 0) (Nat.le_refl a))
  have m5 := m4.trans (ExV.zV (q := a + 29) (by omega))
  have m6 := m5.trans (y6.mono (by omega))
  refine X3_L C ⟨(Nat.le_of_ble_eq_true rfl), (Nat.le_of_ble_eq_true rfl), (Nat.le_of_ble_eq_true rfl), (Nat.le_of_ble_eq_true rfl)⟩ (fun T7 V7 z7 g7 gv7 e7 y7 => ?_) 4 0 _ _ rfl (hz_f z6) ⟨o6, tF_fT f6 (by decide), a6, tF_s z6, i6.same (KeT.fT (by omega)), dk6.same (KeT.fT (by omega)), fun j hj => absurd hj (Nat.not_lt_zero j)⟩ ⟨?_, ?_, v6, d3.same ?_, fun j hj => absurd hj (Nat.not_lt_zero j)⟩ (fun _ _ => ⟨rfl, rfl⟩) (fun _ _ => ⟨rfl, rfl, rfl⟩)
  · exact k_nret (Post := fun (T2 : gT) (V2 : gV) => T2.1 = a + 142 ∧ IsAll T2 a ∧ (∀ H : Nat → Dk, AVe V2 a S0 0 H) ∧ V2.1 (a + 29) 1 = 0 ∧ ExT T T2 a ∧ ExV V V2 a) 69 C dX3_init_69 rfl ⟨z7, g7.done, gv7.done, gv7.2.2.1, k4.trans e7, m6.trans y7⟩
  · rw [(y6 a (by omega)).2.2, (zV_off (q := a + 29) (b := a) (by omega)).2.2]
    show (zV _ (a + 28)).2.2 a 0 = _
    rw [(zV_off (q := a + 28) (b := a) (by omega)).2.2]
    simp [wR, va_up]
  · rw [(y6 a (by omega)).1, (zV_off (q := a + 29) (b := a) (by omega)).1]
    simp [wI, upd]
  · intro b hb1 hb2
    have q1 := y6 b (by omega)
    have q2 := zV_off (V := wI (zV (wR V3 a 0 (some (a + 1))) (a + 28)) a 2 0) (q := a + 29) (b := b) (by omega)
    have q3 := wI_off (V := zV (wR V3 a 0 (some (a + 1))) (a + 28)) (a := a) (k := 2) (x := 0) b (by omega)
    have q4 := zV_off (V := wR V3 a 0 (some (a + 1))) (q := a + 28) (b := b) (by omega)
    have q5 := wR_off (V := V3) (a := a) (k := 0) (x := some (a + 1)) b (by omega)
    exact ⟨(((q1.1.trans q2.1).trans q3.1).trans q4.1).trans q5.1, (((q1.2.1.trans q2.2.1).trans q3.2.1).trans q4.2.1).trans q5.2.1, (((q1.2.2.trans q2.2.2).trans q3.2.2).trans q4.2.2).trans q5.2.2⟩

