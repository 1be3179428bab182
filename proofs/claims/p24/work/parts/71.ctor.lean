/-! what a heap that grows keeps -/
theorem tO_nT {T : gT} {k : kd} {a c : Nat} (h : tO T a c) (hl : a < T.1) : tO (nT T k) a c := (if_neg (by omega)).trans h
theorem tA_nT {T : gT} {k : kd} {a t n : Nat} (h : tA T a t n) (hl : a < T.1) : tA (nT T k) a t n := (if_neg (by omega)).trans h
theorem tF_nT {T : gT} {k : kd} {a j b : Nat} (h : tF T a j b) (hl : a < T.1) : tF (nT T k) a j b := (congrFun (if_neg (by omega)) j).trans h
theorem tO_fT {T : gT} {a c x j b : Nat} (h : tO T a c) : tO (fT T x j b) a c := h
theorem tA_fT {T : gT} {a t n x j b : Nat} (h : tA T a t n) : tA (fT T x j b) a t n := h
theorem tF_fT {T : gT} {a i c x j b : Nat} (h : tF T a i c) (hne : i ≠ j) : tF (fT T x j b) a i c := by
  unfold tF fT
  by_cases e1 : a = x
  · subst e1
    show (if a = a then va_up (T.2.2 a) j (some b) else _) i = _
    rw [if_pos rfl, va_up_ne _ _ hne]; exact h
  · show (if a = x then _ else T.2.2 a) i = _
    rw [if_neg e1]; exact h
theorem tF_s {T : gT} {a j b z : Nat} (_hz : T.1 = z) : tF (fT T a j b) a j b := by
  show (if a = a then va_up (T.2.2 a) j (some b) else _) j = _
  rw [if_pos rfl, va_up_self]
theorem tK_s {T : gT} {k : kd} {z : Nat} (hz : T.1 = z) : (nT T k).2.1 z = some k := if_pos hz.symm
theorem hz_n {T : gT} {k : kd} {z : Nat} (hz : T.1 = z) : (nT T k).1 = z + 1 := congrArg Nat.succ hz
theorem hz_f {T : gT} {a j b z : Nat} (hz : T.1 = z) : (fT T a j b).1 = z := hz
theorem zV_s {V : gV} {q : Nat} : (zV V q).1 q = (fun _ => 0) ∧ (zV V q).2.1 q = (fun _ => 0) ∧ (zV V q).2.2 q = (fun _ => none) := ⟨if_pos rfl, if_pos rfl, if_pos rfl⟩
theorem nc_0 {V : gV} {q N : Nat} {cA : ClassId} : vp_cell cA (N, arrv (zV V q) q 0) = arrV cA N (fun _ => defaultValue .int) := by
  show arrV cA N (fun j => .int ((zV V q).1 q j)) = _
  rw [zV_s.1]; rfl
theorem nc_1 {V : gV} {q N : Nat} {cA : ClassId} : vp_cell cA (N, arrv (zV V q) q 1) = arrV cA N (fun _ => defaultValue .long) := by
  show arrV cA N (fun j => .long ((zV V q).2.1 q j)) = _
  rw [zV_s.2.1]; rfl
theorem nc_2 {V : gV} {q N : Nat} {cA : ClassId} : vp_cell cA (N, arrv (zV V q) q 2) = arrV cA N (fun _ => .null) := by
  show arrV cA N (fun j => va_rf ((zV V q).2.2 q j)) = _
  rw [zV_s.2.2]; rfl
theorem nc_3 {V : gV} {q N : Nat} {cA : ClassId} : vp_cell cA (N, arrv (zV V q) q 3) = arrV cA N (fun _ => .null) := by
  show arrV cA N (fun j => va_rf ((zV V q).2.2 q j)) = _
  rw [zV_s.2.2]; rfl
theorem nc_4 {V : gV} {q N : Nat} {cA : ClassId} : vp_cell cA (N, arrv (zV V q) q 4) = arrV cA N (fun _ => defaultValue .char) := by
  show arrV cA N (fun j => .int ((zV V q).1 q j)) = _
  rw [zV_s.1]; rfl
theorem nc_5 {V : gV} {q N : Nat} {cA : ClassId} : vp_cell cA (N, arrv (zV V q) q 5) = arrV cA N (fun _ => defaultValue .boolean) := by
  show arrV cA N (fun j => .int ((zV V q).1 q j)) = _
  rw [zV_s.1]; rfl
theorem nTr {T : gT} {k : kd} : (nT T k).2.2 T.1 = fun _ => none := if_pos rfl
theorem nd_0 {T : gT} {V : gV} : ∀ j, j < 12 → defaultValue (tyX0 j) = vp_V (flds (nT T (.inr 0)) (zV V T.1) T.1 0) j := by
  intro j hj
  unfold flds
  simp only [nTr, zV_s.1, zV_s.2.1, zV_s.2.2]
  have q : j = 0 ∨ j = 1 ∨ j = 2 ∨ j = 3 ∨ j = 4 ∨ j = 5 ∨ j = 6 ∨ j = 7 ∨ j = 8 ∨ j = 9 ∨ j = 10 ∨ j = 11 := by omega
  rcases q with rfl | rfl | rfl | rfl | rfl | rfl | rfl | rfl | rfl | rfl | rfl | rfl <;> rfl
theorem pf_0_4 (T : gT) (V : gV) (a b : Nat) : flds (fT T a 4 b) V a 0 = (flds T V a 0).set 4 (.ref b) := by simp [flds, fT, va_up, va_rf]
theorem pf_0_10 (T : gT) (V : gV) (a b : Nat) : flds (fT T a 10 b) V a 0 = (flds T V a 0).set 10 (.ref b) := by simp [flds, fT, va_up, va_rf]
theorem nd_1 {T : gT} {V : gV} : ∀ j, j < 11 → defaultValue (tyX1 j) = vp_V (flds (nT T (.inr 1)) (zV V T.1) T.1 1) j := by
  intro j hj
  unfold flds
  simp only [nTr, zV_s.1, zV_s.2.1, zV_s.2.2]
  have q : j = 0 ∨ j = 1 ∨ j = 2 ∨ j = 3 ∨ j = 4 ∨ j = 5 ∨ j = 6 ∨ j = 7 ∨ j = 8 ∨ j = 9 ∨ j = 10 := by omega
  rcases q with rfl | rfl | rfl | rfl | rfl | rfl | rfl | rfl | rfl | rfl | rfl <;> rfl
theorem pf_1_8 (T : gT) (V : gV) (a b : Nat) : flds (fT T a 8 b) V a 1 = (flds T V a 1).set 8 (.ref b) := by simp [flds, fT, va_up, va_rf]
theorem pf_1_9 (T : gT) (V : gV) (a b : Nat) : flds (fT T a 9 b) V a 1 = (flds T V a 1).set 9 (.ref b) := by simp [flds, fT, va_up, va_rf]
theorem pf_1_10 (T : gT) (V : gV) (a b : Nat) : flds (fT T a 10 b) V a 1 = (flds T V a 1).set 10 (.ref b) := by simp [flds, fT, va_up, va_rf]
theorem nd_2 {T : gT} {V : gV} : ∀ j, j < 9 → defaultValue (tyX2 j) = vp_V (flds (nT T (.inr 2)) (zV V T.1) T.1 2) j := by
  intro j hj
  unfold flds
  simp only [nTr, zV_s.1, zV_s.2.1, zV_s.2.2]
  have q : j = 0 ∨ j = 1 ∨ j = 2 ∨ j = 3 ∨ j = 4 ∨ j = 5 ∨ j = 6 ∨ j = 7 ∨ j = 8 := by omega
  rcases q with rfl | rfl | rfl | rfl | rfl | rfl | rfl | rfl | rfl <;> rfl
theorem pf_2_0 (T : gT) (V : gV) (a b : Nat) : flds (fT T a 0 b) V a 2 = (flds T V a 2).set 0 (.ref b) := by simp [flds, fT, va_up, va_rf]
theorem pf_2_5 (T : gT) (V : gV) (a b : Nat) : flds (fT T a 5 b) V a 2 = (flds T V a 2).set 5 (.ref b) := by simp [flds, fT, va_up, va_rf]
theorem pf_2_6 (T : gT) (V : gV) (a b : Nat) : flds (fT T a 6 b) V a 2 = (flds T V a 2).set 6 (.ref b) := by simp [flds, fT, va_up, va_rf]
theorem pf_2_7 (T : gT) (V : gV) (a b : Nat) : flds (fT T a 7 b) V a 2 = (flds T V a 2).set 7 (.ref b) := by simp [flds, fT, va_up, va_rf]
theorem nd_3 {T : gT} {V : gV} : ∀ j, j < 4 → defaultValue (tyX3 j) = vp_V (flds (nT T (.inr 3)) (zV V T.1) T.1 3) j := by
  intro j hj
  unfold flds
  simp only [nTr, zV_s.1, zV_s.2.1, zV_s.2.2]
  have q : j = 0 ∨ j = 1 ∨ j = 2 ∨ j = 3 := by omega
  rcases q with rfl | rfl | rfl | rfl <;> rfl
theorem pf_3_1 (T : gT) (V : gV) (a b : Nat) : flds (fT T a 1 b) V a 3 = (flds T V a 3).set 1 (.ref b) := by simp [flds, fT, va_up, va_rf]
theorem pf_3_3 (T : gT) (V : gV) (a b : Nat) : flds (fT T a 3 b) V a 3 = (flds T V a 3).set 3 (.ref b) := by simp [flds, fT, va_up, va_rf]
set_option maxHeartbeats 4000000 in
set_option maxRecDepth 100000 in
theorem ct_X1_init {E : gE} {T : gT} {l : Launch} {V : gV} {D : Nat} (hz : T.1 = D + 1) (ho : tO T D 1) : CtN E T l yX1_init (gw yX1_init cX1_init 1 none) { frames := 1, cells := 3, slots := 60, locals := 20 } [.ref D] V (fun (T2 : gT) (V2 : gV) => T2.1 = D + 4 ∧ IsDrw T2 D ∧ ExT T T2 D ∧ ExV V V2 D) 3 60 := by
  refine ctN_of (L := [(0, .ref D)]) (by decide) rfl (Nat.le_of_ble_eq_true rfl) rfl (fun p e s m args below meth c C hmn => ?_)
  have hE : ExT T T D := fun _ _ => ⟨rfl, rfl⟩
  have hV : ExV V V D := fun _ _ => ⟨rfl, rfl, rfl⟩
  refine k_aload_n 0 1 C dX1_init_0 rfl 0 rfl ?_
  refine k_objI 1 4 C dX1_init_1 rfl ml_X1_3 (Nat.le_of_ble_eq_true rfl) (Nat.le_of_ble_eq_true rfl) ?_
  refine k_aload_n 4 5 C dX1_init_4 rfl 0 rfl ?_
  refine k_iconst 5 6 C dX1_init_5 rfl (v := (-1)) rfl ?_
  refine k_put 6 9 C dX1_init_6 rfl ci_X1 0 fl_X1_9 ho (by decide) rfl rfl rfl wI_off (ps_1_0 _ _ _ _) ?_
  have hV := hV.trans (ExV.wI (a := D) (k := 0) (x := -1) (Nat.le_refl _))
  refine k_aload_n 9 10 C dX1_init_9 rfl 0 rfl ?_
  refine k_lconst 10 11 C dX1_init_10 rfl (v := 1) rfl ?_
  refine k_put 11 14 C dX1_init_11 rfl ci_X1 1 fl_X1_15 ho (by decide) rfl rfl rfl wL_off (ps_1_1 _ _ _ _) ?_
  have hV := hV.trans (ExV.wL (a := D) (k := 1) (x := 1) (Nat.le_refl _))
  refine k_aload_n 14 15 C dX1_init_14 rfl 0 rfl ?_
  refine k_lconst 15 16 C dX1_init_15 rfl (v := 1) rfl ?_
  refine k_put 16 19 C dX1_init_16 rfl ci_X1 2 fl_X1_19 ho (by decide) rfl rfl rfl wL_off (ps_1_2 _ _ _ _) ?_
  have hV := hV.trans (ExV.wL (a := D) (k := 2) (x := 1) (Nat.le_refl _))
  refine k_aload_n 19 20 C dX1_init_19 rfl 0 rfl ?_
  refine k_iconst 20 21 C dX1_init_20 rfl (v := 1) rfl ?_
  refine k_put 21 24 C dX1_init_21 rfl ci_X1 3 fl_X1_22 ho (by decide) rfl rfl rfl wI_off (ps_1_3 _ _ _ _) ?_
  have hV := hV.trans (ExV.wI (a := D) (k := 3) (x := 1) (Nat.le_refl _))
  refine k_aload_n 24 25 C dX1_init_24 rfl 0 rfl ?_
  refine k_iconst 25 26 C dX1_init_25 rfl (v := 1) rfl ?_
  refine k_put 26 29 C dX1_init_26 rfl ci_X1 4 fl_X1_25 ho (by decide) rfl rfl rfl wI_off (ps_1_4 _ _ _ _) ?_
  have hV := hV.trans (ExV.wI (a := D) (k := 4) (x := 1) (Nat.le_refl _))
  refine k_aload_n 29 30 C dX1_init_29 rfl 0 rfl ?_
  refine k_lconst 30 31 C dX1_init_30 rfl (v := 0) rfl ?_
  refine k_put 31 34 C dX1_init_31 rfl ci_X1 5 fl_X1_28 ho (by decide) rfl rfl rfl wL_off (ps_1_5 _ _ _ _) ?_
  have hV := hV.trans (ExV.wL (a := D) (k := 5) (x := 0) (Nat.le_refl _))
  refine k_aload_n 34 35 C dX1_init_34 rfl 0 rfl ?_
  refine k_lconst 35 36 C dX1_init_35 rfl (v := 0) rfl ?_
  refine k_put 36 39 C dX1_init_36 rfl ci_X1 6 fl_X1_31 ho (by decide) rfl rfl rfl wL_off (ps_1_6 _ _ _ _) ?_
  have hV := hV.trans (ExV.wL (a := D) (k := 6) (x := 0) (Nat.le_refl _))
  refine k_aload_n 39 40 C dX1_init_39 rfl 0 rfl ?_
  refine k_iconst 40 41 C dX1_init_40 rfl (v := 0) rfl ?_
  refine k_put 41 44 C dX1_init_41 rfl ci_X1 7 fl_X1_34 ho (by decide) rfl rfl rfl wI_off (ps_1_7 _ _ _ _) ?_
  have hV := hV.trans (ExV.wI (a := D) (k := 7) (x := 0) (Nat.le_refl _))
  refine k_aload_n 44 45 C dX1_init_44 rfl 0 rfl ?_
  refine k_bipush 45 47 C dX1_init_45 rfl (v := 20) rfl ?_
  refine k_newA 47 49 C 1 dX1_init_47 rfl ac__long rfl (fun _ z => by cases z) (fun _ => nc_1) (N := 20) (by decide) (by decide) (Nat.le_of_ble_eq_true rfl) (Nat.le_of_ble_eq_true rfl) (Nat.le_of_ble_eq_true rfl) ?_
  rw [hz]
  have ho := tO_nT (k := .inl (1, 20)) ho (by rw [hz]; omega)
  have hE := hE.trans (ExT.nT (k := .inl (1, 20)) (by rw [hz]; omega))
  have hV := hV.trans (ExV.zV (q := D + 1) (by omega))
  have hA1 := tK_s (k := .inl (1, 20)) hz
  have hz := hz_n (k := .inl (1, 20)) hz
  refine k_putF 49 52 C hmn dX1_init_49 rfl ci_X1 8 fl_X1_37 ho (by decide) rfl rfl rfl rfl (pf_1_8 _ _ _ _) ?_
  have ho := tO_fT (x := D) (j := 8) (b := D + 1) ho
  have hA1 := tA_fT (x := D) (j := 8) (b := D + 1) hA1
  have hF8 := tF_s (a := D) (j := 8) (b := D + 1) hz
  have hz := hz_f (a := D) (j := 8) (b := D + 1) hz
  have hE := hE.trans (ExT.fT (a := D) (j := 8) (b := D + 1) (Nat.le_refl _))
  refine k_aload_n 52 53 C dX1_init_52 rfl 0 rfl ?_
  refine k_bipush 53 55 C dX1_init_53 rfl (v := 20) rfl ?_
  refine k_newA 55 57 C 1 dX1_init_55 rfl ac__long rfl (fun _ z => by cases z) (fun _ => nc_1) (N := 20) (by decide) (by decide) (Nat.le_of_ble_eq_true rfl) (Nat.le_of_ble_eq_true rfl) (Nat.le_of_ble_eq_true rfl) ?_
  rw [hz]
  have ho := tO_nT (k := .inl (1, 20)) ho (by rw [hz]; omega)
  have hA1 := tA_nT (k := .inl (1, 20)) hA1 (by rw [hz]; omega)
  have hF8 := tF_nT (k := .inl (1, 20)) hF8 (by rw [hz]; omega)
  have hE := hE.trans (ExT.nT (k := .inl (1, 20)) (by rw [hz]; omega))
  have hV := hV.trans (ExV.zV (q := D + 2) (by omega))
  have hA2 := tK_s (k := .inl (1, 20)) hz
  have hz := hz_n (k := .inl (1, 20)) hz
  refine k_putF 57 60 C hmn dX1_init_57 rfl ci_X1 9 fl_X1_41 ho (by decide) rfl rfl rfl rfl (pf_1_9 _ _ _ _) ?_
  have ho := tO_fT (x := D) (j := 9) (b := D + 2) ho
  have hA1 := tA_fT (x := D) (j := 9) (b := D + 2) hA1
  have hF8 := tF_fT (x := D) (j := 9) (b := D + 2) hF8 (by decide)
  have hA2 := tA_fT (x := D) (j := 9) (b := D + 2) hA2
  have hF9 := tF_s (a := D) (j := 9) (b := D + 2) hz
  have hz := hz_f (a := D) (j := 9) (b := D + 2) hz
  have hE := hE.trans (ExT.fT (a := D) (j := 9) (b := D + 2) (Nat.le_refl _))
  refine k_aload_n 60 61 C dX1_init_60 rfl 0 rfl ?_
  refine k_bipush 61 63 C dX1_init_61 rfl (v := 20) rfl ?_
  refine k_newA 63 65 C 0 dX1_init_63 rfl ac__int rfl (fun _ z => by cases z) (fun _ => nc_0) (N := 20) (by decide) (by decide) (Nat.le_of_ble_eq_true rfl) (Nat.le_of_ble_eq_true rfl) (Nat.le_of_ble_eq_true rfl) ?_
  rw [hz]
  have ho := tO_nT (k := .inl (0, 20)) ho (by rw [hz]; omega)
  have hA1 := tA_nT (k := .inl (0, 20)) hA1 (by rw [hz]; omega)
  have hF8 := tF_nT (k := .inl (0, 20)) hF8 (by rw [hz]; omega)
  have hA2 := tA_nT (k := .inl (0, 20)) hA2 (by rw [hz]; omega)
  have hF9 := tF_nT (k := .inl (0, 20)) hF9 (by rw [hz]; omega)
  have hE := hE.trans (ExT.nT (k := .inl (0, 20)) (by rw [hz]; omega))
  have hV := hV.trans (ExV.zV (q := D + 3) (by omega))
  have hA3 := tK_s (k := .inl (0, 20)) hz
  have hz := hz_n (k := .inl (0, 20)) hz
  refine k_putF 65 68 C hmn dX1_init_65 rfl ci_X1 10 fl_X1_44 ho (by decide) rfl rfl rfl rfl (pf_1_10 _ _ _ _) ?_
  have ho := tO_fT (x := D) (j := 10) (b := D + 3) ho
  have hA1 := tA_fT (x := D) (j := 10) (b := D + 3) hA1
  have hF8 := tF_fT (x := D) (j := 10) (b := D + 3) hF8 (by decide)
  have hA2 := tA_fT (x := D) (j := 10) (b := D + 3) hA2
  have hF9 := tF_fT (x := D) (j := 10) (b := D + 3) hF9 (by decide)
  have hA3 := tA_fT (x := D) (j := 10) (b := D + 3) hA3
  have hF10 := tF_s (a := D) (j := 10) (b := D + 3) hz
  have hz := hz_f (a := D) (j := 10) (b := D + 3) hz
  have hE := hE.trans (ExT.fT (a := D) (j := 10) (b := D + 3) (Nat.le_refl _))
  exact k_nret (Post := fun (T2 : gT) (V2 : gV) => T2.1 = D + 4 ∧ IsDrw T2 D ∧ ExT T T2 D ∧ ExV V V2 D) 68 C dX1_init_68 rfl ⟨hz, ⟨ho, hF8, hA1, hF9, hA2, hF10, hA3⟩, hE, hV⟩
set_option maxHeartbeats 4000000 in
set_option maxRecDepth 100000 in
theorem ct_X2_init {E : gE} {T : gT} {l : Launch} {V : gV} {D : Nat} (hz : T.1 = D + 1) (ho : tO T D 2) (hv : V.1 D = fun _ => 0) : CtN E T l yX2_init (gw yX2_init cX2_init 1 none) { frames := 1, cells := 4, slots := 160, locals := 20 } [.ref D] V (fun (T2 : gT) (V2 : gV) => T2.1 = D + 5 ∧ IsTxt T2 D ∧ ExT T T2 D ∧ ExV V V2 D ∧ V2.1 D 1 = 0) 4 160 := by
  refine ctN_of (L := [(0, .ref D)]) (by decide) rfl (Nat.le_of_ble_eq_true rfl) rfl (fun p e s m args below meth c C hmn => ?_)
  have hE : ExT T T D := fun _ _ => ⟨rfl, rfl⟩
  have hV : ExV V V D := fun _ _ => ⟨rfl, rfl, rfl⟩
  refine k_aload_n 0 1 C dX2_init_0 rfl 0 rfl ?_
  refine k_objI 1 4 C dX2_init_1 rfl ml_X2_3 (Nat.le_of_ble_eq_true rfl) (Nat.le_of_ble_eq_true rfl) ?_
  refine k_aload_n 4 5 C dX2_init_4 rfl 0 rfl ?_
  refine k_bipush 5 7 C dX2_init_5 rfl (v := 100) rfl ?_
  refine k_newA 7 9 C 4 dX2_init_7 rfl ac__char rfl (fun _ z => by cases z) (fun _ => nc_4) (N := 100) (by decide) (by decide) (Nat.le_of_ble_eq_true rfl) (Nat.le_of_ble_eq_true rfl) (Nat.le_of_ble_eq_true rfl) ?_
  rw [hz]
  have ho := tO_nT (k := .inl (4, 100)) ho (by rw [hz]; omega)
  have hE := hE.trans (ExT.nT (k := .inl (4, 100)) (by rw [hz]; omega))
  have hV := hV.trans (ExV.zV (q := D + 1) (by omega))
  have hA1 := tK_s (k := .inl (4, 100)) hz
  have hz := hz_n (k := .inl (4, 100)) hz
  refine k_putF 9 12 C hmn dX2_init_9 rfl ci_X2 0 fl_X2_9 ho (by decide) rfl rfl rfl rfl (pf_2_0 _ _ _ _) ?_
  have ho := tO_fT (x := D) (j := 0) (b := D + 1) ho
  have hA1 := tA_fT (x := D) (j := 0) (b := D + 1) hA1
  have hF0 := tF_s (a := D) (j := 0) (b := D + 1) hz
  have hz := hz_f (a := D) (j := 0) (b := D + 1) hz
  have hE := hE.trans (ExT.fT (a := D) (j := 0) (b := D + 1) (Nat.le_refl _))
  refine k_aload_n 12 13 C dX2_init_12 rfl 0 rfl ?_
  refine k_iconst 13 14 C dX2_init_13 rfl (v := 0) rfl ?_
  refine k_put 14 17 C dX2_init_14 rfl ci_X2 1 fl_X2_15 ho (by decide) rfl rfl rfl wI_off (ps_2_1 _ _ _ _) ?_
  have hV := hV.trans (ExV.wI (a := D) (k := 1) (x := 0) (Nat.le_refl _))
  refine k_aload_n 17 18 C dX2_init_17 rfl 0 rfl ?_
  refine k_iconst 18 19 C dX2_init_18 rfl (v := 0) rfl ?_
  refine k_put 19 22 C dX2_init_19 rfl ci_X2 2 fl_X2_19 ho (by decide) rfl rfl rfl wI_off (ps_2_2 _ _ _ _) ?_
  have hV := hV.trans (ExV.wI (a := D) (k := 2) (x := 0) (Nat.le_refl _))
  refine k_aload_n 22 23 C dX2_init_22 rfl 0 rfl ?_
  refine k_iconst 23 24 C dX2_init_23 rfl (v := 0) rfl ?_
  refine k_put 24 27 C dX2_init_24 rfl ci_X2 3 fl_X2_22 ho (by decide) rfl rfl rfl wI_off (ps_2_3 _ _ _ _) ?_
  have hV := hV.trans (ExV.wI (a := D) (k := 3) (x := 0) (Nat.le_refl _))
  refine k_aload_n 27 28 C dX2_init_27 rfl 0 rfl ?_
  refine k_iconst 28 29 C dX2_init_28 rfl (v := 0) rfl ?_
  refine k_put 29 32 C dX2_init_29 rfl ci_X2 4 fl_X2_25 ho (by decide) rfl rfl rfl wI_off (ps_2_4 _ _ _ _) ?_
  have hV := hV.trans (ExV.wI (a := D) (k := 4) (x := 0) (Nat.le_refl _))
  refine k_aload_n 32 33 C dX2_init_32 rfl 0 rfl ?_
  refine k_bipush 33 35 C dX2_init_33 rfl (v := 20) rfl ?_
  refine k_newA 35 37 C 0 dX2_init_35 rfl ac__int rfl (fun _ z => by cases z) (fun _ => nc_0) (N := 20) (by decide) (by decide) (Nat.le_of_ble_eq_true rfl) (Nat.le_of_ble_eq_true rfl) (Nat.le_of_ble_eq_true rfl) ?_
  rw [hz]
  have ho := tO_nT (k := .inl (0, 20)) ho (by rw [hz]; omega)
  have hA1 := tA_nT (k := .inl (0, 20)) hA1 (by rw [hz]; omega)
  have hF0 := tF_nT (k := .inl (0, 20)) hF0 (by rw [hz]; omega)
  have hE := hE.trans (ExT.nT (k := .inl (0, 20)) (by rw [hz]; omega))
  have hV := hV.trans (ExV.zV (q := D + 2) (by omega))
  have hA2 := tK_s (k := .inl (0, 20)) hz
  have hz := hz_n (k := .inl (0, 20)) hz
  refine k_putF 37 40 C hmn dX2_init_37 rfl ci_X2 5 fl_X2_28 ho (by decide) rfl rfl rfl rfl (pf_2_5 _ _ _ _) ?_
  have ho := tO_fT (x := D) (j := 5) (b := D + 2) ho
  have hA1 := tA_fT (x := D) (j := 5) (b := D + 2) hA1
  have hF0 := tF_fT (x := D) (j := 5) (b := D + 2) hF0 (by decide)
  have hA2 := tA_fT (x := D) (j := 5) (b := D + 2) hA2
  have hF5 := tF_s (a := D) (j := 5) (b := D + 2) hz
  have hz := hz_f (a := D) (j := 5) (b := D + 2) hz
  have hE := hE.trans (ExT.fT (a := D) (j := 5) (b := D + 2) (Nat.le_refl _))
  refine k_aload_n 40 41 C dX2_init_40 rfl 0 rfl ?_
  refine k_bipush 41 43 C dX2_init_41 rfl (v := 20) rfl ?_
  refine k_newA 43 45 C 0 dX2_init_43 rfl ac__int rfl (fun _ z => by cases z) (fun _ => nc_0) (N := 20) (by decide) (by decide) (Nat.le_of_ble_eq_true rfl) (Nat.le_of_ble_eq_true rfl) (Nat.le_of_ble_eq_true rfl) ?_
  rw [hz]
  have ho := tO_nT (k := .inl (0, 20)) ho (by rw [hz]; omega)
  have hA1 := tA_nT (k := .inl (0, 20)) hA1 (by rw [hz]; omega)
  have hF0 := tF_nT (k := .inl (0, 20)) hF0 (by rw [hz]; omega)
  have hA2 := tA_nT (k := .inl (0, 20)) hA2 (by rw [hz]; omega)
  have hF5 := tF_nT (k := .inl (0, 20)) hF5 (by rw [hz]; omega)
  have hE := hE.trans (ExT.nT (k := .inl (0, 20)) (by rw [hz]; omega))
  have hV := hV.trans (ExV.zV (q := D + 3) (by omega))
  have hA3 := tK_s (k := .inl (0, 20)) hz
  have hz := hz_n (k := .inl (0, 20)) hz
  refine k_putF 45 48 C hmn dX2_init_45 rfl ci_X2 6 fl_X2_32 ho (by decide) rfl rfl rfl rfl (pf_2_6 _ _ _ _) ?_
  have ho := tO_fT (x := D) (j := 6) (b := D + 3) ho
  have hA1 := tA_fT (x := D) (j := 6) (b := D + 3) hA1
  have hF0 := tF_fT (x := D) (j := 6) (b := D + 3) hF0 (by decide)
  have hA2 := tA_fT (x := D) (j := 6) (b := D + 3) hA2
  have hF5 := tF_fT (x := D) (j := 6) (b := D + 3) hF5 (by decide)
  have hA3 := tA_fT (x := D) (j := 6) (b := D + 3) hA3
  have hF6 := tF_s (a := D) (j := 6) (b := D + 3) hz
  have hz := hz_f (a := D) (j := 6) (b := D + 3) hz
  have hE := hE.trans (ExT.fT (a := D) (j := 6) (b := D + 3) (Nat.le_refl _))
  refine k_aload_n 48 49 C dX2_init_48 rfl 0 rfl ?_
  refine k_bipush 49 51 C dX2_init_49 rfl (v := 20) rfl ?_
  refine k_newA 51 53 C 5 dX2_init_51 rfl ac__boolean rfl (fun _ z => by cases z) (fun _ => nc_5) (N := 20) (by decide) (by decide) (Nat.le_of_ble_eq_true rfl) (Nat.le_of_ble_eq_true rfl) (Nat.le_of_ble_eq_true rfl) ?_
  rw [hz]
  have ho := tO_nT (k := .inl (5, 20)) ho (by rw [hz]; omega)
  have hA1 := tA_nT (k := .inl (5, 20)) hA1 (by rw [hz]; omega)
  have hF0 := tF_nT (k := .inl (5, 20)) hF0 (by rw [hz]; omega)
  have hA2 := tA_nT (k := .inl (5, 20)) hA2 (by rw [hz]; omega)
  have hF5 := tF_nT (k := .inl (5, 20)) hF5 (by rw [hz]; omega)
  have hA3 := tA_nT (k := .inl (5, 20)) hA3 (by rw [hz]; omega)
  have hF6 := tF_nT (k := .inl (5, 20)) hF6 (by rw [hz]; omega)
  have hE := hE.trans (ExT.nT (k := .inl (5, 20)) (by rw [hz]; omega))
  have hV := hV.trans (ExV.zV (q := D + 4) (by omega))
  have hA4 := tK_s (k := .inl (5, 20)) hz
  have hz := hz_n (k := .inl (5, 20)) hz
  refine k_putF 53 56 C hmn dX2_init_53 rfl ci_X2 7 fl_X2_35 ho (by decide) rfl rfl rfl rfl (pf_2_7 _ _ _ _) ?_
  have ho := tO_fT (x := D) (j := 7) (b := D + 4) ho
  have hA1 := tA_fT (x := D) (j := 7) (b := D + 4) hA1
  have hF0 := tF_fT (x := D) (j := 7) (b := D + 4) hF0 (by decide)
  have hA2 := tA_fT (x := D) (j := 7) (b := D + 4) hA2
  have hF5 := tF_fT (x := D) (j := 7) (b := D + 4) hF5 (by decide)
  have hA3 := tA_fT (x := D) (j := 7) (b := D + 4) hA3
  have hF6 := tF_fT (x := D) (j := 7) (b := D + 4) hF6 (by decide)
  have hA4 := tA_fT (x := D) (j := 7) (b := D + 4) hA4
  have hF7 := tF_s (a := D) (j := 7) (b := D + 4) hz
  have hz := hz_f (a := D) (j := 7) (b := D + 4) hz
  have hE := hE.trans (ExT.fT (a := D) (j := 7) (b := D + 4) (Nat.le_refl _))
  refine k_aload_n 56 57 C dX2_init_56 rfl 0 rfl ?_
  refine k_iconst 57 58 C dX2_init_57 rfl (v := 0) rfl ?_
  refine k_put 58 61 C dX2_init_58 rfl ci_X2 8 fl_X2_39 ho (by decide) rfl rfl rfl wI_off (ps_2_8 _ _ _ _) ?_
  have hV := hV.trans (ExV.wI (a := D) (k := 8) (x := 0) (Nat.le_refl _))
  refine k_nret (Post := fun (T2 : gT) (V2 : gV) => T2.1 = D + 5 ∧ IsTxt T2 D ∧ ExT T T2 D ∧ ExV V V2 D ∧ V2.1 D 1 = 0) 61 C dX2_init_61 rfl ⟨hz, ⟨ho, hF0, hA1, hF5, hA2, hF6, hA3, hF7, hA4⟩, hE, hV, ?_⟩
  simp [wI, zV, hv]
  rw [if_neg (by omega), if_neg (by omega), if_neg (by omega)]
  rfl
/-- the first page -/
def f0 (j : Nat) : Int64 := if j = 0 then 1 else if j = 1 then 1 else if j = 6 then 1000 else if j = 7 then 1000 else if j = 8 then 100 else 0
