theorem tO_ex {T T' : gT} {a c D : Nat} (h : tO T a c) (x : ExT T T' D) (ha : a < D) : tO T' a c := (x a ha).1.trans h
theorem tA_ex {T T' : gT} {a t n D : Nat} (h : tA T a t n) (x : ExT T T' D) (ha : a < D) : tA T' a t n := (x a ha).1.trans h
theorem tF_ex {T T' : gT} {a j b D : Nat} (h : tF T a j b) (x : ExT T T' D) (ha : a < D) : tF T' a j b := (congrFun (x a ha).2 j).trans h
/-- a desk with so many of its drawings made -/
def DskP (T : gT) (a i : Nat) : Prop := tO T a 0 ∧ tF T a 4 (a + 1) ∧ tA T (a + 1) 0 5 ∧ tF T a 10 (a + 2) ∧ tA T (a + 2) 2 6 ∧ ∀ j, j < i → IsDrw T (a + 3 + 4 * j)
theorem DskP.ex {T T' : gT} {a i D : Nat} (h : DskP T a i) (x : ExT T T' D) (h3 : a + 3 ≤ D) (ha : a + 3 + 4 * i ≤ D) : DskP T' a i := ⟨tO_ex h.1 x (by omega), tF_ex h.2.1 x (by omega), tA_ex h.2.2.1 x (by omega), tF_ex h.2.2.2.1 x (by omega), tA_ex h.2.2.2.2.1 x (by omega), fun j hj => (h.2.2.2.2.2 j hj).ex x (by omega)⟩
def RwP (V : gV) (D i : Nat) : Prop := ∀ j, j < i → V.2.2 (D + 2) j = some (D + 3 + 4 * j)
def S0f (j : Nat) : Int32 := if j = 0 then 1 else if j = 1 then 1 else if j = 6 then 10 else 0
/-- the first desk -/
def S0 : Dk := (S0f, firstv, 0, fun _ => (0, 0, 0, 0, 0, 0, 0, 0, (fun _ => 0), (fun _ => 0), fun _ => 0))
set_option maxHeartbeats 1000000 in
theorem X0_L2 {E : gE} {T : gT} {V : gV} {p : Program} {l : Launch} {e : Env} {R : Room} {s : State} {m : MethodId} {args : Array Value} {below : List Frame} {meth : Method} {c : Code} {ret : Option FieldType} {Q : State → Prop} (C : Cx E p s m args meth c yX0_init.cls cX0_init 2 ret) {D : Nat} (hr : 26 ≤ R.cells ∧ 437 ≤ R.slots ∧ 2 ≤ R.frames ∧ 40 ≤ R.locals) (kk : ∀ (T2 : gT) (V2 : gV), T2.1 = D + 27 → IsDsk T2 D → RwP V2 D 6 → V2.1 D = V.1 D → V2.1 (D + 1) = V.1 (D + 1) → ExT T T2 D → ExV V V2 D → KW E T2 V2 p l e R s m args below meth c 2 26 437 Q 140 [(1, .int (nI 6)), (0, .ref D)] []) : ∀ (w i : Nat) (T1 : gT) (V1 : gV), i + w = 6 → T1.1 = D + 3 + 4 * i → DskP T1 D i → RwP V1 D i → V1.1 D = V.1 D → V1.1 (D + 1) = V.1 (D + 1) → ExT T T1 D → ExV V V1 D → KW E T1 V1 p l e R s m args below meth c 2 (2 + 4 * i) (11 + 71 * i) Q 112 [(1, .int (nI i)), (0, .ref D)] []
  | w, i, T1, V1, hw, hz, g, gr, v0, v1, hE, hV => by
    obtain ⟨r1, r2, r3, r4⟩ := hr
    refine k_iload_n 112 113 C dX0_init_112 rfl 0 rfl ?_
    refine k_aload_n 113 114 C dX0_init_113 rfl 1 rfl ?_
    refine k_getF 114 117 C dX0_init_114 rfl ci_X0 10 fl_X0_48 g.1 (by decide) g.2.2.2.1 rfl ?_
    refine k_alen 117 118 C dX0_init_117 rfl g.2.2.2.2.1 (by decide) (v := 6) rfl ?_
    refine k_icmp_ge 118 140 121 C dX0_init_118 (by decide) rfl (fun h => ?_) (fun h => ?_)
    · have h6 : 6 ≤ i := (n6 (n := 6) (by decide) (by omega)).mp h
      obtain rfl : i = 6 := by omega
      exact kk T1 V1 hz ⟨g.1, g.2.1, g.2.2.1, g.2.2.2.1, g.2.2.2.2.1, g.2.2.2.2.2⟩ gr v0 v1 hE hV
    · have h6 : ¬ 6 ≤ i := fun z => h ((n6 (n := 6) (by decide) (by omega)).mpr z)
      cases w with
      | zero => exact absurd hw (by omega)
      | succ w =>
      refine k_aload_n 121 122 C dX0_init_121 rfl 1 rfl ?_
      refine k_getF 122 125 C dX0_init_122 rfl ci_X0 10 fl_X0_48 g.1 (by decide) g.2.2.2.1 rfl ?_
      refine k_iload_n 125 126 C dX0_init_125 rfl 0 rfl ?_
      refine k_newO 126 129 C dX0_init_126 rfl ci_X1 cl_X0_46 ins_X1 ini_X1 nd_1 (by omega) (by omega) ?_
      rw [hz]
      have hk := tK_s (k := .inr 1) hz
      have hz2 := hz_n (k := .inr 1) hz
      have hE2 := hE.trans (ExT.nT (k := .inr 1) (by rw [hz]; omega))
      have hV2 := hV.trans (ExV.zV (q := D + 3 + 4 * i) (by omega))
      have g2 : DskP (nT T1 (.inr 1)) D i := g.ex (ExT.nT (D := D + 3 + 4 * i) (Nat.le_of_eq hz.symm)) (by omega) (by omega)
      have x2 := ExV.zV (V := V1) (q := D + 3 + 4 * i) (D := D + 3 + 4 * i) (Nat.le_refl _)
      refine k_dup 129 130 C dX0_init_129 rfl rfl ?_
      refine k_callIN 130 133 C dX0_init_130 rfl (ct_X1_init hz2 hk) mi_X1_init rfl ml_X0_55 im_X1_init ⟨r3, by omega⟩ (Nat.le_of_ble_eq_true rfl) (by omega) (by omega) (fun T3 V3 p3 => ?_)
      obtain ⟨z3, i3, e3, y3⟩ := p3
      have x3 := x2.trans y3
      refine k_aast2 133 134 C dX0_init_133 rfl (tA_ex g2.2.2.2.2.1 e3 (by omega)) i3.1 (vp_in_nI (by omega) (by decide)) ?_
      rw [nI_clamp (by omega)]
      refine k_iinc 134 137 C [(1, .int (nI (i + 1))), (0, .ref D)] (nI (i + 1)) dX0_init_134 rfl 0 rfl (nI_1 i) (by decide) rfl ?_
      refine k_goto 137 112 C dX0_init_137 (by decide) ?_
      refine KW.widen (show 2 + 4 * i + 1 + 3 ≤ 2 + 4 * (i + 1) by omega) (show 11 + 71 * i + 11 + 60 ≤ 11 + 71 * (i + 1) by omega) ?_
      refine X0_L2 C ⟨r1, r2, r3, r4⟩ kk w (i + 1) T3 _ (by omega) (by rw [z3]; omega) ⟨tO_ex g2.1 e3 (by omega), tF_ex g2.2.1 e3 (by omega), tA_ex g2.2.2.1 e3 (by omega), tF_ex g2.2.2.2.1 e3 (by omega), tA_ex g2.2.2.2.2.1 e3 (by omega), fun j hj => ?_⟩ (fun j hj => ?_) (((x3 D (by omega)).1).trans v0) (((x3 (D + 1) (by omega)).1).trans v1) (hE2.trans (e3.mono (by omega))) ((hV2.trans (y3.mono (by omega))).trans (ExV.wR (by omega)))
      · by_cases ej : j = i
        · subst ej; exact i3
        · exact (g2.2.2.2.2.2 j (by omega)).ex e3 (by omega)
      · by_cases ej : j = i
        · subst ej; simp [wR, va_up]
        · have z := gr j (by omega)
          rw [← (x3 (D + 2) (by omega)).2.2] at z
          simp only [wR]
          first | (rw [if_pos trivial, va_up_ne _ _ ej]; exact z) | (rw [if_pos rfl, va_up_ne _ _ ej]; exact z)
theorem X0_L1 {E : gE} {T : gT} {V : gV} {p : Program} {l : Launch} {e : Env} {R : Room} {s : State} {m : MethodId} {args : Array Value} {below : List Frame} {meth : Method} {c : Code} {ret : Option FieldType} {k n : Nat} {Q : State → Prop} (C : Cx E p s m args meth c yX0_init.cls cX0_init 2 ret) {D : Nat} (o : tO T D 0) (f4 : tF T D 4 (D + 1)) (a4 : tA T (D + 1) 0 5) (kk : ∀ (V2 : gV), (∀ j, j < 5 → V2.1 (D + 1) j = firstv j) → V2.1 D = V.1 D → ExV V V2 D → KW E T V2 p l e R s m args below meth c 2 k n Q 110 [(1, .int (nI 5)), (0, .ref D)] []) : ∀ (w i : Nat) (V1 : gV), i + w = 5 → (∀ j, j < i → V1.1 (D + 1) j = firstv j) → V1.1 D = V.1 D → ExV V V1 D → KW E T V1 p l e R s m args below meth c 2 k n Q 76 [(1, .int (nI i)), (0, .ref D)] []
  | w, i, V1, hw, gs, v0, hV => by
    refine k_iload_n 76 77 C dX0_init_76 rfl 0 rfl ?_
    refine k_aload_n 77 78 C dX0_init_77 rfl 1 rfl ?_
    refine k_getF 78 81 C dX0_init_78 rfl ci_X0 4 fl_X0_28 o (by decide) f4 rfl ?_
    refine k_alen 81 82 C dX0_init_81 rfl a4 (by decide) (v := 5) rfl ?_
    refine k_icmp_ge 82 110 85 C dX0_init_82 (by decide) rfl (fun h => ?_) (fun h => ?_)
    · have h6 : 5 ≤ i := (n6 (n := 5) (by decide) (by omega)).mp h
      obtain rfl : i = 5 := by omega
      exact kk V1 gs v0 hV
    · have h6 : ¬ 5 ≤ i := fun z => h ((n6 (n := 5) (by decide) (by omega)).mpr z)
      cases w with
      | zero => exact absurd hw (by omega)
      | succ w =>
      refine k_iload_n 85 86 C dX0_init_85 rfl 0 rfl ?_
      refine k_gets2N 86 89 C dX0_init_86 rfl fn_X0_24 ?_
      refine k_slen2 89 90 C dX0_init_89 rfl ?_
      refine k_icmp_ge 90 110 93 C dX0_init_90 (by decide) rfl (fun h2 => absurd h2 h) (fun _ => ?_)
      refine k_aload_n 93 94 C dX0_init_93 rfl 1 rfl ?_
      refine k_getF 94 97 C dX0_init_94 rfl ci_X0 4 fl_X0_28 o (by decide) f4 rfl ?_
      refine k_iload_n 97 98 C dX0_init_97 rfl 0 rfl ?_
      refine k_gets2N 98 101 C dX0_init_98 rfl fn_X0_24 ?_
      refine k_iload_n 101 102 C dX0_init_101 rfl 0 rfl ?_
      refine k_sald2 102 103 C dX0_init_102 rfl (vp_in_nI (by omega) (by decide)) ?_
      refine k_iast 103 104 C dX0_init_103 rfl a4 (vp_in_nI (by omega) (by decide)) ?_
      rw [nI_clamp (by omega)]
      refine k_iinc 104 107 C [(1, .int (nI (i + 1))), (0, .ref D)] (nI (i + 1)) dX0_init_104 rfl 0 rfl (nI_1 i) (by decide) rfl ?_
      refine k_goto 107 76 C dX0_init_107 (by decide) ?_
      refine X0_L1 C o f4 a4 kk w (i + 1) _ (by omega) (fun j hj => ?_) ((wI_off D (by omega)).1.trans v0) (hV.trans (ExV.wI (by omega)))
      by_cases ej : j = i
      · subst ej; simp [wI, upd]
      · have z := gs j (by omega)
        simp only [wI]
        rw [if_pos trivial, ← z]; exact if_neg ej
set_option maxHeartbeats 4000000 in
set_option maxRecDepth 100000 in
theorem ct_X0_init {E : gE} {T : gT} {l : Launch} {V : gV} {D : Nat} (hz : T.1 = D + 1) (ho : tO T D 0) (hv : V.1 D = fun _ => 0) : CtN E T l yX0_init (gw yX0_init cX0_init 2 none) { frames := 2, cells := 26, slots := 437, locals := 40 } [.ref D] V (fun (T2 : gT) (V2 : gV) => T2.1 = D + 27 ∧ IsDsk T2 D ∧ DK V2 D S0 (fun j => j) ∧ ExT T T2 D ∧ ExV V V2 D) 26 437 := by
  refine ctN_of (L := [(0, .ref D)]) (by decide) rfl (Nat.le_of_ble_eq_true rfl) rfl (fun p e s m args below meth c C hmn => ?_)
  have hE : ExT T T D := fun _ _ => ⟨rfl, rfl⟩
  have hV : ExV V V D := fun _ _ => ⟨rfl, rfl, rfl⟩
  refine k_aload_n 0 1 C dX0_init_0 rfl 0 rfl ?_
  refine k_objI 1 4 C dX0_init_1 rfl ml_X0_3 (Nat.le_of_ble_eq_true rfl) (Nat.le_of_ble_eq_true rfl) ?_
  refine k_aload_n 4 5 C dX0_init_4 rfl 0 rfl ?_
  refine k_iconst 5 6 C dX0_init_5 rfl (v := 1) rfl ?_
  refine k_put 6 9 C dX0_init_6 rfl ci_X0 0 fl_X0_9 ho (by decide) rfl rfl rfl wI_off (ps_0_0 _ _ _ _) ?_
  have hV := hV.trans (ExV.wI (a := D) (k := 0) (x := 1) (Nat.le_refl _))
  refine k_aload_n 9 10 C dX0_init_9 rfl 0 rfl ?_
  refine k_iconst 10 11 C dX0_init_10 rfl (v := 1) rfl ?_
  refine k_put 11 14 C dX0_init_11 rfl ci_X0 1 fl_X0_15 ho (by decide) rfl rfl rfl wI_off (ps_0_1 _ _ _ _) ?_
  have hV := hV.trans (ExV.wI (a := D) (k := 1) (x := 1) (Nat.le_refl _))
  refine k_aload_n 14 15 C dX0_init_14 rfl 0 rfl ?_
  refine k_iconst 15 16 C dX0_init_15 rfl (v := 0) rfl ?_
  refine k_put 16 19 C dX0_init_16 rfl ci_X0 2 fl_X0_18 ho (by decide) rfl rfl rfl wI_off (ps_0_2 _ _ _ _) ?_
  have hV := hV.trans (ExV.wI (a := D) (k := 2) (x := 0) (Nat.le_refl _))
  refine k_aload_n 19 20 C dX0_init_19 rfl 0 rfl ?_
  refine k_iconst 20 21 C dX0_init_20 rfl (v := 0) rfl ?_
  refine k_put 21 24 C dX0_init_21 rfl ci_X0 3 fl_X0_21 ho (by decide) rfl rfl rfl wI_off (ps_0_3 _ _ _ _) ?_
  have hV := hV.trans (ExV.wI (a := D) (k := 3) (x := 0) (Nat.le_refl _))
  refine k_aload_n 24 25 C dX0_init_24 rfl 0 rfl ?_
  refine k_gets2N 25 28 C dX0_init_25 rfl fn_X0_24 ?_
  refine k_slen2 28 29 C dX0_init_28 rfl  ?_
  refine k_newA 29 31 C 0 dX0_init_29 rfl ac__int rfl (fun _ z => by cases z) (fun _ => nc_0) (N := 5) (by decide) (by decide) (Nat.le_of_ble_eq_true rfl) (Nat.le_of_ble_eq_true rfl) (Nat.le_of_ble_eq_true rfl) ?_
  rw [hz]
  have ho := tO_nT (k := .inl (0, 5)) ho (by rw [hz]; omega)
  have hE := hE.trans (ExT.nT (k := .inl (0, 5)) (by rw [hz]; omega))
  have hV := hV.trans (ExV.zV (q := D + 1) (by omega))
  have hA1 := tK_s (k := .inl (0, 5)) hz
  have hz := hz_n (k := .inl (0, 5)) hz
  refine k_putF 31 34 C hmn dX0_init_31 rfl ci_X0 4 fl_X0_28 ho (by decide) rfl rfl rfl rfl (pf_0_4 _ _ _ _) ?_
  have ho := tO_fT (x := D) (j := 4) (b := D + 1) ho
  have hA1 := tA_fT (x := D) (j := 4) (b := D + 1) hA1
  have hF4 := tF_s (a := D) (j := 4) (b := D + 1) hz
  have hz := hz_f (a := D) (j := 4) (b := D + 1) hz
  have hE := hE.trans (ExT.fT (a := D) (j := 4) (b := D + 1) (Nat.le_refl _))
  refine k_aload_n 34 35 C dX0_init_34 rfl 0 rfl ?_
  refine k_iconst 35 36 C dX0_init_35 rfl (v := 0) rfl ?_
  refine k_put 36 39 C dX0_init_36 rfl ci_X0 5 fl_X0_31 ho (by decide) rfl rfl rfl wI_off (ps_0_5 _ _ _ _) ?_
  have hV := hV.trans (ExV.wI (a := D) (k := 5) (x := 0) (Nat.le_refl _))
  refine k_aload_n 39 40 C dX0_init_39 rfl 0 rfl ?_
  refine k_bipush 40 42 C dX0_init_40 rfl (v := 10) rfl ?_
  refine k_put 42 45 C dX0_init_42 rfl ci_X0 6 fl_X0_34 ho (by decide) rfl rfl rfl wI_off (ps_0_6 _ _ _ _) ?_
  have hV := hV.trans (ExV.wI (a := D) (k := 6) (x := 10) (Nat.le_refl _))
  refine k_aload_n 45 46 C dX0_init_45 rfl 0 rfl ?_
  refine k_iconst 46 47 C dX0_init_46 rfl (v := 0) rfl ?_
  refine k_put 47 50 C dX0_init_47 rfl ci_X0 7 fl_X0_37 ho (by decide) rfl rfl rfl wI_off (ps_0_7 _ _ _ _) ?_
  have hV := hV.trans (ExV.wI (a := D) (k := 7) (x := 0) (Nat.le_refl _))
  refine k_aload_n 50 51 C dX0_init_50 rfl 0 rfl ?_
  refine k_iconst 51 52 C dX0_init_51 rfl (v := 0) rfl ?_
  refine k_put 52 55 C dX0_init_52 rfl ci_X0 8 fl_X0_40 ho (by decide) rfl rfl rfl wI_off (ps_0_8 _ _ _ _) ?_
  have hV := hV.trans (ExV.wI (a := D) (k := 8) (x := 0) (Nat.le_refl _))
  refine k_aload_n 55 56 C dX0_init_55 rfl 0 rfl ?_
  refine k_iconst 56 57 C dX0_init_56 rfl (v := 0) rfl ?_
  refine k_put 57 60 C dX0_init_57 rfl ci_X0 9 fl_X0_43 ho (by decide) rfl rfl rfl wI_off (ps_0_9 _ _ _ _) ?_
  have hV := hV.trans (ExV.wI (a := D) (k := 9) (x := 0) (Nat.le_refl _))
  refine k_aload_n 60 61 C dX0_init_60 rfl 0 rfl ?_
  refine k_bipush 61 63 C dX0_init_61 rfl (v := 6) rfl ?_
  refine k_newQ 63 66 C 2 dX0_init_63 rfl cl_X0_46 C.ao1 rfl (fun _ => nc_2) (N := 6) (by decide) (by decide) (Nat.le_of_ble_eq_true rfl) (Nat.le_of_ble_eq_true rfl) (Nat.le_of_ble_eq_true rfl) ?_
  rw [hz]
  have ho := tO_nT (k := .inl (2, 6)) ho (by rw [hz]; omega)
  have hA1 := tA_nT (k := .inl (2, 6)) hA1 (by rw [hz]; omega)
  have hF4 := tF_nT (k := .inl (2, 6)) hF4 (by rw [hz]; omega)
  have hE := hE.trans (ExT.nT (k := .inl (2, 6)) (by rw [hz]; omega))
  have hV := hV.trans (ExV.zV (q := D + 2) (by omega))
  have hA2 := tK_s (k := .inl (2, 6)) hz
  have hz := hz_n (k := .inl (2, 6)) hz
  refine k_putF 66 69 C hmn dX0_init_66 rfl ci_X0 10 fl_X0_48 ho (by decide) rfl rfl rfl rfl (pf_0_10 _ _ _ _) ?_
  have ho := tO_fT (x := D) (j := 10) (b := D + 2) ho
  have hA1 := tA_fT (x := D) (j := 10) (b := D + 2) hA1
  have hF4 := tF_fT (x := D) (j := 10) (b := D + 2) hF4 (by decide)
  have hA2 := tA_fT (x := D) (j := 10) (b := D + 2) hA2
  have hF10 := tF_s (a := D) (j := 10) (b := D + 2) hz
  have hz := hz_f (a := D) (j := 10) (b := D + 2) hz
  have hE := hE.trans (ExT.fT (a := D) (j := 10) (b := D + 2) (Nat.le_refl _))
  refine k_aload_n 69 70 C dX0_init_69 rfl 0 rfl ?_
  refine k_iconst 70 71 C dX0_init_70 rfl (v := 0) rfl ?_
  refine k_put 71 74 C dX0_init_71 rfl ci_X0 11 fl_X0_52 ho (by decide) rfl rfl rfl wI_off (ps_0_11 _ _ _ _) ?_
  have hV := hV.trans (ExV.wI (a := D) (k := 11) (x := 0) (Nat.le_refl _))
  refine k_iconst 74 75 C dX0_init_74 rfl (v := 0) rfl ?_
  refine k_istore_n 75 76 C [(1, .int (nI 0)), (0, .ref D)] dX0_init_75 rfl (by decide) rfl ?_
  refine X0_L1 C ho hF4 hA1 (fun V2 gs v0 hV2 => ?_) 5 0 _ rfl (fun j hj => absurd hj (Nat.not_lt_zero j)) rfl (fun _ _ => ⟨rfl, rfl, rfl⟩)
  refine k_iconst 110 111 C dX0_init_110 rfl (v := 0) rfl ?_
  refine k_istore_n 111 112 C [(1, .int (nI 0)), (0, .ref D)] dX0_init_111 rfl (by decide) rfl ?_
  refine X0_L2 C ⟨Nat.le_refl _, Nat.le_refl _, Nat.le_refl _, Nat.le_refl _⟩ (fun T3 V3 z3 i3 r3 v3 v4 e3 y3 => ?_) 6 0 _ _ rfl hz ⟨ho, hF4, hA1, hF10, hA2, fun j hj => absurd hj (Nat.not_lt_zero j)⟩ (fun j hj => absurd hj (Nat.not_lt_zero j)) rfl rfl (fun _ _ => ⟨rfl, rfl⟩) (fun _ _ => ⟨rfl, rfl, rfl⟩)
  refine k_nret (Post := fun (T2 : gT) (V2 : gV) => T2.1 = D + 27 ∧ IsDsk T2 D ∧ DK V2 D S0 (fun j => j) ∧ ExT T T2 D ∧ ExV V V2 D) 140 C dX0_init_140 rfl ⟨z3, i3, ⟨fun j hj hj4 => ?_, fun j hj => ?_, ?_, Nat.zero_le _, fun j hj => ⟨hj, r3 j hj⟩, fun i j _ _ h => h, fun i hi => absurd hi (Nat.not_lt_zero i)⟩, hE.trans e3, (hV.trans hV2).trans y3⟩
  · rw [v3, v0]
    simp [wI, zV, hv]
    rw [if_neg (by omega)]
    have q : j = 0 ∨ j = 1 ∨ j = 2 ∨ j = 3 ∨ j = 5 ∨ j = 6 ∨ j = 7 ∨ j = 8 ∨ j = 9 := by omega
    rcases q with rfl | rfl | rfl | rfl | rfl | rfl | rfl | rfl | rfl <;> rfl
  · rw [v4]; exact gs j hj
  · rw [v3, v0]
    simp [wI, zV, hv]
    rfl

