/-! the shapes of our objects: kinds and final references, by the order in which they are made -/
def IsDrw (T : gT) (a : Nat) : Prop := tO T a 1 ∧ tF T a 8 (a + 1) ∧ tA T (a + 1) 1 20 ∧ tF T a 9 (a + 2) ∧ tA T (a + 2) 1 20 ∧ tF T a 10 (a + 3) ∧ tA T (a + 3) 0 20
theorem IsDrw.o {T : gT} {a : Nat} (h : IsDrw T a) : tO T a 1 := h.1
theorem IsDrw.f8 {T : gT} {a : Nat} (h : IsDrw T a) : tF T a 8 (a + 1) := h.2.1
theorem IsDrw.a8 {T : gT} {a : Nat} (h : IsDrw T a) : tA T (a + 1) 1 20 := h.2.2.1
theorem IsDrw.f9 {T : gT} {a : Nat} (h : IsDrw T a) : tF T a 9 (a + 2) := h.2.2.2.1
theorem IsDrw.a9 {T : gT} {a : Nat} (h : IsDrw T a) : tA T (a + 2) 1 20 := h.2.2.2.2.1
theorem IsDrw.f10 {T : gT} {a : Nat} (h : IsDrw T a) : tF T a 10 (a + 3) := h.2.2.2.2.2.1
theorem IsDrw.a10 {T : gT} {a : Nat} (h : IsDrw T a) : tA T (a + 3) 0 20 := h.2.2.2.2.2.2
def IsDsk (T : gT) (a : Nat) : Prop := tO T a 0 ∧ tF T a 4 (a + 1) ∧ tA T (a + 1) 0 5 ∧ tF T a 10 (a + 2) ∧ tA T (a + 2) 2 6 ∧ ∀ j, j < 6 → IsDrw T (a + 3 + 4 * j)
theorem IsDsk.o {T : gT} {a : Nat} (h : IsDsk T a) : tO T a 0 := h.1
theorem IsDsk.f4 {T : gT} {a : Nat} (h : IsDsk T a) : tF T a 4 (a + 1) := h.2.1
theorem IsDsk.a4 {T : gT} {a : Nat} (h : IsDsk T a) : tA T (a + 1) 0 5 := h.2.2.1
theorem IsDsk.f10 {T : gT} {a : Nat} (h : IsDsk T a) : tF T a 10 (a + 2) := h.2.2.2.1
theorem IsDsk.a10 {T : gT} {a : Nat} (h : IsDsk T a) : tA T (a + 2) 2 6 := h.2.2.2.2.1
theorem IsDsk.d {T : gT} {a : Nat} (h : IsDsk T a) : ∀ j, j < 6 → IsDrw T (a + 3 + 4 * j) := h.2.2.2.2.2
def IsTxt (T : gT) (a : Nat) : Prop := tO T a 2 ∧ tF T a 0 (a + 1) ∧ tA T (a + 1) 4 100 ∧ tF T a 5 (a + 2) ∧ tA T (a + 2) 0 20 ∧ tF T a 6 (a + 3) ∧ tA T (a + 3) 0 20 ∧ tF T a 7 (a + 4) ∧ tA T (a + 4) 5 20
theorem IsTxt.o {T : gT} {a : Nat} (h : IsTxt T a) : tO T a 2 := h.1
theorem IsTxt.f0 {T : gT} {a : Nat} (h : IsTxt T a) : tF T a 0 (a + 1) := h.2.1
theorem IsTxt.a0 {T : gT} {a : Nat} (h : IsTxt T a) : tA T (a + 1) 4 100 := h.2.2.1
theorem IsTxt.f5 {T : gT} {a : Nat} (h : IsTxt T a) : tF T a 5 (a + 2) := h.2.2.2.1
theorem IsTxt.a5 {T : gT} {a : Nat} (h : IsTxt T a) : tA T (a + 2) 0 20 := h.2.2.2.2.1
theorem IsTxt.f6 {T : gT} {a : Nat} (h : IsTxt T a) : tF T a 6 (a + 3) := h.2.2.2.2.2.1
theorem IsTxt.a6 {T : gT} {a : Nat} (h : IsTxt T a) : tA T (a + 3) 0 20 := h.2.2.2.2.2.2.1
theorem IsTxt.f7 {T : gT} {a : Nat} (h : IsTxt T a) : tF T a 7 (a + 4) := h.2.2.2.2.2.2.2.1
theorem IsTxt.a7 {T : gT} {a : Nat} (h : IsTxt T a) : tA T (a + 4) 5 20 := h.2.2.2.2.2.2.2.2
def IsArm (T : gT) (a : Nat) : Prop := tO T a 3 ∧ tF T a 1 (a + 28) ∧ tA T (a + 28) 3 4 ∧ tF T a 3 (a + 29) ∧ IsTxt T (a + 29)
theorem IsArm.o {T : gT} {a : Nat} (h : IsArm T a) : tO T a 3 := h.1
theorem IsArm.f1 {T : gT} {a : Nat} (h : IsArm T a) : tF T a 1 (a + 28) := h.2.1
theorem IsArm.a1 {T : gT} {a : Nat} (h : IsArm T a) : tA T (a + 28) 3 4 := h.2.2.1
theorem IsArm.f3 {T : gT} {a : Nat} (h : IsArm T a) : tF T a 3 (a + 29) := h.2.2.2.1
theorem IsArm.t {T : gT} {a : Nat} (h : IsArm T a) : IsTxt T (a + 29) := h.2.2.2.2
theorem ps_0_0 (T : gT) (V : gV) (a : Nat) (x : Int32) : flds T (wI V a 0 x) a 0 = (flds T V a 0).set 0 (.int x) := by simp [flds, wI, upd, vp_updL, va_up]
theorem ps_0_1 (T : gT) (V : gV) (a : Nat) (x : Int32) : flds T (wI V a 1 x) a 0 = (flds T V a 0).set 1 (.int x) := by simp [flds, wI, upd, vp_updL, va_up]
theorem ps_0_2 (T : gT) (V : gV) (a : Nat) (x : Int32) : flds T (wI V a 2 x) a 0 = (flds T V a 0).set 2 (.int x) := by simp [flds, wI, upd, vp_updL, va_up]
theorem ps_0_3 (T : gT) (V : gV) (a : Nat) (x : Int32) : flds T (wI V a 3 x) a 0 = (flds T V a 0).set 3 (.int x) := by simp [flds, wI, upd, vp_updL, va_up]
theorem ps_0_5 (T : gT) (V : gV) (a : Nat) (x : Int32) : flds T (wI V a 5 x) a 0 = (flds T V a 0).set 5 (.int x) := by simp [flds, wI, upd, vp_updL, va_up]
theorem ps_0_6 (T : gT) (V : gV) (a : Nat) (x : Int32) : flds T (wI V a 6 x) a 0 = (flds T V a 0).set 6 (.int x) := by simp [flds, wI, upd, vp_updL, va_up]
theorem ps_0_7 (T : gT) (V : gV) (a : Nat) (x : Int32) : flds T (wI V a 7 x) a 0 = (flds T V a 0).set 7 (.int x) := by simp [flds, wI, upd, vp_updL, va_up]
theorem ps_0_8 (T : gT) (V : gV) (a : Nat) (x : Int32) : flds T (wI V a 8 x) a 0 = (flds T V a 0).set 8 (.int x) := by simp [flds, wI, upd, vp_updL, va_up]
theorem ps_0_9 (T : gT) (V : gV) (a : Nat) (x : Int32) : flds T (wI V a 9 x) a 0 = (flds T V a 0).set 9 (.int x) := by simp [flds, wI, upd, vp_updL, va_up]
theorem ps_0_11 (T : gT) (V : gV) (a : Nat) (x : Int32) : flds T (wI V a 11 x) a 0 = (flds T V a 0).set 11 (.int x) := by simp [flds, wI, upd, vp_updL, va_up]
theorem ps_1_0 (T : gT) (V : gV) (a : Nat) (x : Int32) : flds T (wI V a 0 x) a 1 = (flds T V a 1).set 0 (.int x) := by simp [flds, wI, upd, vp_updL, va_up]
theorem ps_1_1 (T : gT) (V : gV) (a : Nat) (x : Int64) : flds T (wL V a 1 x) a 1 = (flds T V a 1).set 1 (.long x) := by simp [flds, wL, upd, vp_updL, va_up]
theorem ps_1_2 (T : gT) (V : gV) (a : Nat) (x : Int64) : flds T (wL V a 2 x) a 1 = (flds T V a 1).set 2 (.long x) := by simp [flds, wL, upd, vp_updL, va_up]
theorem ps_1_3 (T : gT) (V : gV) (a : Nat) (x : Int32) : flds T (wI V a 3 x) a 1 = (flds T V a 1).set 3 (.int x) := by simp [flds, wI, upd, vp_updL, va_up]
theorem ps_1_4 (T : gT) (V : gV) (a : Nat) (x : Int32) : flds T (wI V a 4 x) a 1 = (flds T V a 1).set 4 (.int x) := by simp [flds, wI, upd, vp_updL, va_up]
theorem ps_1_5 (T : gT) (V : gV) (a : Nat) (x : Int64) : flds T (wL V a 5 x) a 1 = (flds T V a 1).set 5 (.long x) := by simp [flds, wL, upd, vp_updL, va_up]
theorem ps_1_6 (T : gT) (V : gV) (a : Nat) (x : Int64) : flds T (wL V a 6 x) a 1 = (flds T V a 1).set 6 (.long x) := by simp [flds, wL, upd, vp_updL, va_up]
theorem ps_1_7 (T : gT) (V : gV) (a : Nat) (x : Int32) : flds T (wI V a 7 x) a 1 = (flds T V a 1).set 7 (.int x) := by simp [flds, wI, upd, vp_updL, va_up]
theorem ps_2_1 (T : gT) (V : gV) (a : Nat) (x : Int32) : flds T (wI V a 1 x) a 2 = (flds T V a 2).set 1 (.int x) := by simp [flds, wI, upd, vp_updL, va_up]
theorem ps_2_2 (T : gT) (V : gV) (a : Nat) (x : Int32) : flds T (wI V a 2 x) a 2 = (flds T V a 2).set 2 (.int x) := by simp [flds, wI, upd, vp_updL, va_up]
theorem ps_2_3 (T : gT) (V : gV) (a : Nat) (x : Int32) : flds T (wI V a 3 x) a 2 = (flds T V a 2).set 3 (.int x) := by simp [flds, wI, upd, vp_updL, va_up]
theorem ps_2_4 (T : gT) (V : gV) (a : Nat) (x : Int32) : flds T (wI V a 4 x) a 2 = (flds T V a 2).set 4 (.int x) := by simp [flds, wI, upd, vp_updL, va_up]
theorem ps_2_8 (T : gT) (V : gV) (a : Nat) (x : Int32) : flds T (wI V a 8 x) a 2 = (flds T V a 2).set 8 (.int x) := by simp [flds, wI, upd, vp_updL, va_up]
theorem ps_3_0 (T : gT) (V : gV) (a : Nat) (x : Option Nat) : flds T (wR V a 0 x) a 3 = (flds T V a 3).set 0 (va_rf x) := by simp [flds, wR, upd, vp_updL, va_up]
theorem ps_3_2 (T : gT) (V : gV) (a : Nat) (x : Int32) : flds T (wI V a 2 x) a 3 = (flds T V a 3).set 2 (.int x) := by simp [flds, wI, upd, vp_updL, va_up]
/-- a truth as the machine has it -/
def bi (q : Prop) [Decidable q] : Int32 := if q then 1 else 0
theorem bi_t {q : Prop} [Decidable q] (h : q) : bi q = 1 := if_pos h
theorem bi_f {q : Prop} [Decidable q] (h : ¬ q) : bi q = 0 := if_neg h
theorem bi_01 {q : Prop} [Decidable q] : bi q = 0 ∨ bi q = 1 := by
  by_cases h : q
  · exact Or.inr (if_pos h)
  · exact Or.inl (if_neg h)
theorem bi_0 {q : Prop} [Decidable q] : bi q = 0 ↔ ¬ q := by
  by_cases h : q
  · simp [bi, h]
  · simp [bi, h]
theorem bi_congr {q r : Prop} [Decidable q] [Decidable r] (h : q ↔ r) : bi q = bi r := by
  by_cases hq : q
  · rw [bi_t hq, bi_t (h.mp hq)]
  · rw [bi_f hq, bi_f (fun x => hq (h.mpr x))]
theorem lg_ge {x y : Int64} : 0 ≤ lg_cmp x y ↔ y ≤ x := by
  unfold lg_cmp
  have e1 := @Int64.lt_iff_toInt_lt y x
  have e2 := @Int64.le_iff_toInt_le y x
  by_cases h : x > y
  · rw [if_pos h]
    have h' := e1.mp h
    exact ⟨fun _ => e2.mpr (by omega), fun _ => by decide⟩
  · rw [if_neg h]
    have h' : ¬ y.toInt < x.toInt := fun z => h (e1.mpr z)
    by_cases h2 : x = y
    · rw [if_pos h2]
      subst h2
      exact ⟨fun _ => e2.mpr (by omega), fun _ => by decide⟩
    · rw [if_neg h2]
      have h3 : x.toInt ≠ y.toInt := fun z => h2 (Int64.toInt_inj.mp z)
      exact ⟨fun z => absurd z (by decide), fun z => absurd (e2.mp z) (by omega)⟩
theorem lg_le {x y : Int64} : lg_cmp x y ≤ 0 ↔ x ≤ y := by
  unfold lg_cmp
  have e1 := @Int64.lt_iff_toInt_lt y x
  have e2 := @Int64.le_iff_toInt_le x y
  by_cases h : x > y
  · rw [if_pos h]
    have h' := e1.mp h
    exact ⟨fun z => absurd z (by decide), fun z => absurd (e2.mp z) (by omega)⟩
  · rw [if_neg h]
    have h' : ¬ y.toInt < x.toInt := fun z => h (e1.mpr z)
    by_cases h2 : x = y
    · rw [if_pos h2]
      subst h2
      exact ⟨fun _ => e2.mpr (by omega), fun _ => by decide⟩
    · rw [if_neg h2]
      exact ⟨fun _ => e2.mpr (by omega), fun _ => by decide⟩
theorem lg_eq {x y : Int64} : lg_cmp x y = 0 ↔ x = y := by
  unfold lg_cmp
  by_cases h : x > y
  · rw [if_pos h]
    exact ⟨fun z => absurd z (by decide), fun z => by subst z; exact absurd (Int64.lt_iff_toInt_lt.mp h) (by omega)⟩
  · rw [if_neg h]
    by_cases h2 : x = y
    · rw [if_pos h2]; exact ⟨fun _ => h2, fun _ => rfl⟩
    · rw [if_neg h2]; exact ⟨fun z => absurd z (by decide), fun z => absurd z h2⟩
theorem i32_not_le {a b : Int32} : ¬ a ≤ b ↔ b < a := by
  rw [Int32.le_iff_toInt_le, Int32.lt_iff_toInt_lt]; omega
theorem i32_not_lt {a b : Int32} : ¬ a < b ↔ b ≤ a := by
  rw [Int32.le_iff_toInt_le, Int32.lt_iff_toInt_lt]; omega
theorem i64_not_le {a b : Int64} : ¬ a ≤ b ↔ b < a := by
  rw [Int64.le_iff_toInt_le, Int64.lt_iff_toInt_lt]; omega
theorem i64_not_lt {a b : Int64} : ¬ a < b ↔ b ≤ a := by
  rw [Int64.le_iff_toInt_le, Int64.lt_iff_toInt_lt]; omega
theorem lg_lt {x y : Int64} : lg_cmp x y < 0 ↔ x < y := by
  rw [← i32_not_le, lg_ge, i64_not_le]
theorem lg_gt {x y : Int64} : 0 < lg_cmp x y ↔ y < x := by
  rw [← i32_not_le, lg_le, i64_not_le]
theorem vi_of {i : Int32} {N : Nat} (hN : N < 2 ^ 31) (h0 : ¬ i < 0) (h1 : ¬ Int32.ofNat N ≤ i) : vp_in i N := by
  rw [vp_in_iff]
  have e : (Int32.ofNat N).toInt = (N : Int) := nI_toInt hN
  rw [Int32.lt_iff_toInt_lt] at h0
  rw [Int32.le_iff_toInt_le, e] at h1
  have e0 : (0 : Int32).toInt = 0 := by decide
  omega
section KWB
variable {E : gE} {T : gT} {V : gV} {p : Program} {l : Launch} {e : Env} {R : Room} {s : State} {m : MethodId} {args : Array Value} {below : List Frame} {meth : Method} {c : Code} {own : String} {cc : ByteArray} {nL : Nat} {ret : Option FieldType} {k n : Nat} {Q : State → Prop} {L : List (Nat × Value)} {st : List Value}
theorem k_lcmp_eq (pc q t q2 : Nat) (C : Cx E p s m args meth c own cc nL ret) {x y : Int64} {off : Int} (hd : decode cc pc = .ok (.lcmp, 1)) (hq : pc + 1 = q) (hd2 : decode cc q = .ok (.ifCond .eq off, 3)) (ht : (q : Int) + off = (t : Int)) (hq2 : q + 3 = q2) (kt : x = y → KW E T V p l e R s m args below meth c nL k n Q t L st) (kf : ¬ x = y → KW E T V p l e R s m args below meth c nL k n Q q2 L st) : KW E T V p l e R s m args below meth c nL k n Q pc L (.long y :: .long x :: st) := by
  refine k_lcmp pc q C hd hq ?_
  exact k_if_eq q t q2 C hd2 ht hq2 (fun h => kt (lg_eq.mp h)) (fun h => kf (fun z => h (lg_eq.mpr z)))
theorem k_lcmp_ne (pc q t q2 : Nat) (C : Cx E p s m args meth c own cc nL ret) {x y : Int64} {off : Int} (hd : decode cc pc = .ok (.lcmp, 1)) (hq : pc + 1 = q) (hd2 : decode cc q = .ok (.ifCond .ne off, 3)) (ht : (q : Int) + off = (t : Int)) (hq2 : q + 3 = q2) (kt : ¬ x = y → KW E T V p l e R s m args below meth c nL k n Q t L st) (kf : x = y → KW E T V p l e R s m args below meth c nL k n Q q2 L st) : KW E T V p l e R s m args below meth c nL k n Q pc L (.long y :: .long x :: st) := by
  refine k_lcmp pc q C hd hq ?_
  exact k_if_ne q t q2 C hd2 ht hq2 (fun h => kt (fun z => h (lg_eq.mpr z))) (fun h => kf (lg_eq.mp h))
theorem k_lcmp_lt (pc q t q2 : Nat) (C : Cx E p s m args meth c own cc nL ret) {x y : Int64} {off : Int} (hd : decode cc pc = .ok (.lcmp, 1)) (hq : pc + 1 = q) (hd2 : decode cc q = .ok (.ifCond .lt off, 3)) (ht : (q : Int) + off = (t : Int)) (hq2 : q + 3 = q2) (kt : x < y → KW E T V p l e R s m args below meth c nL k n Q t L st) (kf : ¬ x < y → KW E T V p l e R s m args below meth c nL k n Q q2 L st) : KW E T V p l e R s m args below meth c nL k n Q pc L (.long y :: .long x :: st) := by
  refine k_lcmp pc q C hd hq ?_
  exact k_if_lt q t q2 C hd2 ht hq2 (fun h => kt (lg_lt.mp h)) (fun h => kf (fun z => h (lg_lt.mpr z)))
theorem k_lcmp_ge (pc q t q2 : Nat) (C : Cx E p s m args meth c own cc nL ret) {x y : Int64} {off : Int} (hd : decode cc pc = .ok (.lcmp, 1)) (hq : pc + 1 = q) (hd2 : decode cc q = .ok (.ifCond .ge off, 3)) (ht : (q : Int) + off = (t : Int)) (hq2 : q + 3 = q2) (kt : y ≤ x → KW E T V p l e R s m args below meth c nL k n Q t L st) (kf : ¬ y ≤ x → KW E T V p l e R s m args below meth c nL k n Q q2 L st) : KW E T V p l e R s m args below meth c nL k n Q pc L (.long y :: .long x :: st) := by
  refine k_lcmp pc q C hd hq ?_
  exact k_if_ge q t q2 C hd2 ht hq2 (fun h => kt (lg_ge.mp h)) (fun h => kf (fun z => h (lg_ge.mpr z)))
theorem k_lcmp_gt (pc q t q2 : Nat) (C : Cx E p s m args meth c own cc nL ret) {x y : Int64} {off : Int} (hd : decode cc pc = .ok (.lcmp, 1)) (hq : pc + 1 = q) (hd2 : decode cc q = .ok (.ifCond .gt off, 3)) (ht : (q : Int) + off = (t : Int)) (hq2 : q + 3 = q2) (kt : y < x → KW E T V p l e R s m args below meth c nL k n Q t L st) (kf : ¬ y < x → KW E T V p l e R s m args below meth c nL k n Q q2 L st) : KW E T V p l e R s m args below meth c nL k n Q pc L (.long y :: .long x :: st) := by
  refine k_lcmp pc q C hd hq ?_
  exact k_if_gt q t q2 C hd2 ht hq2 (fun h => kt (lg_gt.mp h)) (fun h => kf (fun z => h (lg_gt.mpr z)))
theorem k_lcmp_le (pc q t q2 : Nat) (C : Cx E p s m args meth c own cc nL ret) {x y : Int64} {off : Int} (hd : decode cc pc = .ok (.lcmp, 1)) (hq : pc + 1 = q) (hd2 : decode cc q = .ok (.ifCond .le off, 3)) (ht : (q : Int) + off = (t : Int)) (hq2 : q + 3 = q2) (kt : x ≤ y → KW E T V p l e R s m args below meth c nL k n Q t L st) (kf : ¬ x ≤ y → KW E T V p l e R s m args below meth c nL k n Q q2 L st) : KW E T V p l e R s m args below meth c nL k n Q pc L (.long y :: .long x :: st) := by
  refine k_lcmp pc q C hd hq ?_
  exact k_if_le q t q2 C hd2 ht hq2 (fun h => kt (lg_le.mp h)) (fun h => kf (fun z => h (lg_le.mpr z)))
theorem k_ifb_eq (pc t q : Nat) (C : Cx E p s m args meth c own cc nL ret) {b : Prop} [Decidable b] {off : Int} (hd : decode cc pc = .ok (.ifCond .eq off, 3)) (ht : (pc : Int) + off = (t : Int)) (hq : pc + 3 = q) (kt : ¬ b → KW E T V p l e R s m args below meth c nL k n Q t L st) (kf : b → KW E T V p l e R s m args below meth c nL k n Q q L st) : KW E T V p l e R s m args below meth c nL k n Q pc L (.int (bi b) :: st) :=
  k_if_eq pc t q C hd ht hq (fun h => kt (bi_0.mp h)) (fun h => kf (Classical.not_not.mp (fun z => h (bi_0.mpr z))))
theorem k_ifb_ne (pc t q : Nat) (C : Cx E p s m args meth c own cc nL ret) {b : Prop} [Decidable b] {off : Int} (hd : decode cc pc = .ok (.ifCond .ne off, 3)) (ht : (pc : Int) + off = (t : Int)) (hq : pc + 3 = q) (kt : b → KW E T V p l e R s m args below meth c nL k n Q t L st) (kf : ¬ b → KW E T V p l e R s m args below meth c nL k n Q q L st) : KW E T V p l e R s m args below meth c nL k n Q pc L (.int (bi b) :: st) :=
  k_if_ne pc t q C hd ht hq (fun h => kt (Classical.not_not.mp (fun z => h (bi_0.mpr z)))) (fun h => kf (bi_0.mp h))
theorem k_tabAt (pc t : Nat) (C : Cx E p s m args meth c own cc nL ret) {dflt lo hi : Int} {offs : Array Int} {len : Nat} {x : Int32} {off : Int} (hd : decode cc pc = .ok (.tableswitch dflt lo hi offs, len)) {z : Int32} (h : x = z) (h1 : decide (z.toInt < lo) = false) (h2 : decide (hi < z.toInt) = false) (ho : offs[(z.toInt - lo).toNat]? = some off) (ht : (pc : Int) + off = (t : Int)) (K : KW E T V p l e R s m args below meth c nL k n Q t L st) : KW E T V p l e R s m args below meth c nL k n Q pc L (.int x :: st) := by
  subst h
  exact k_tabIn pc t C hd (of_decide_eq_false h1) (of_decide_eq_false h2) ho ht K
theorem k_switch4 (pc : Nat) (C : Cx E p s m args meth c own cc nL ret) {x : Int32} (cD : x.toInt < 0 ∨ 3 < x.toInt → KW E T V p l e R s m args below meth c nL k n Q pc L (.int x :: st)) (cs0 : x = 0 → KW E T V p l e R s m args below meth c nL k n Q pc L (.int x :: st)) (cs1 : x = 1 → KW E T V p l e R s m args below meth c nL k n Q pc L (.int x :: st)) (cs2 : x = 2 → KW E T V p l e R s m args below meth c nL k n Q pc L (.int x :: st)) (cs3 : x = 3 → KW E T V p l e R s m args below meth c nL k n Q pc L (.int x :: st)) : KW E T V p l e R s m args below meth c nL k n Q pc L (.int x :: st) := by
  by_cases h : x.toInt < 0 ∨ 3 < x.toInt
  · exact cD h
  · have hx : ∀ z : Int32, x.toInt = z.toInt → x = z := fun z h => Int32.toInt_inj.mp h
    rcases (show x.toInt = 0 ∨ x.toInt = 1 ∨ x.toInt = 2 ∨ x.toInt = 3 by omega) with h | h | h | h
    · exact cs0 (hx 0 h)
    · exact cs1 (hx 1 h)
    · exact cs2 (hx 2 h)
    · exact cs3 (hx 3 h)
theorem k_switch7 (pc : Nat) (C : Cx E p s m args meth c own cc nL ret) {x : Int32} (cD : x.toInt < 0 ∨ 6 < x.toInt → KW E T V p l e R s m args below meth c nL k n Q pc L (.int x :: st)) (cs0 : x = 0 → KW E T V p l e R s m args below meth c nL k n Q pc L (.int x :: st)) (cs1 : x = 1 → KW E T V p l e R s m args below meth c nL k n Q pc L (.int x :: st)) (cs2 : x = 2 → KW E T V p l e R s m args below meth c nL k n Q pc L (.int x :: st)) (cs3 : x = 3 → KW E T V p l e R s m args below meth c nL k n Q pc L (.int x :: st)) (cs4 : x = 4 → KW E T V p l e R s m args below meth c nL k n Q pc L (.int x :: st)) (cs5 : x = 5 → KW E T V p l e R s m args below meth c nL k n Q pc L (.int x :: st)) (cs6 : x = 6 → KW E T V p l e R s m args below meth c nL k n Q pc L (.int x :: st)) : KW E T V p l e R s m args below meth c nL k n Q pc L (.int x :: st) := by
  by_cases h : x.toInt < 0 ∨ 6 < x.toInt
  · exact cD h
  · have hx : ∀ z : Int32, x.toInt = z.toInt → x = z := fun z h => Int32.toInt_inj.mp h
    rcases (show x.toInt = 0 ∨ x.toInt = 1 ∨ x.toInt = 2 ∨ x.toInt = 3 ∨ x.toInt = 4 ∨ x.toInt = 5 ∨ x.toInt = 6 by omega) with h | h | h | h | h | h | h
    · exact cs0 (hx 0 h)
    · exact cs1 (hx 1 h)
    · exact cs2 (hx 2 h)
    · exact cs3 (hx 3 h)
    · exact cs4 (hx 4 h)
    · exact cs5 (hx 5 h)
    · exact cs6 (hx 6 h)
theorem k_switch12 (pc : Nat) (C : Cx E p s m args meth c own cc nL ret) {x : Int32} (cD : x.toInt < 0 ∨ 11 < x.toInt → KW E T V p l e R s m args below meth c nL k n Q pc L (.int x :: st)) (cs0 : x = 0 → KW E T V p l e R s m args below meth c nL k n Q pc L (.int x :: st)) (cs1 : x = 1 → KW E T V p l e R s m args below meth c nL k n Q pc L (.int x :: st)) (cs2 : x = 2 → KW E T V p l e R s m args below meth c nL k n Q pc L (.int x :: st)) (cs3 : x = 3 → KW E T V p l e R s m args below meth c nL k n Q pc L (.int x :: st)) (cs4 : x = 4 → KW E T V p l e R s m args below meth c nL k n Q pc L (.int x :: st)) (cs5 : x = 5 → KW E T V p l e R s m args below meth c nL k n Q pc L (.int x :: st)) (cs6 : x = 6 → KW E T V p l e R s m args below meth c nL k n Q pc L (.int x :: st)) (cs7 : x = 7 → KW E T V p l e R s m args below meth c nL k n Q pc L (.int x :: st)) (cs8 : x = 8 → KW E T V p l e R s m args below meth c nL k n Q pc L (.int x :: st)) (cs9 : x = 9 → KW E T V p l e R s m args below meth c nL k n Q pc L (.int x :: st)) (cs10 : x = 10 → KW E T V p l e R s m args below meth c nL k n Q pc L (.int x :: st)) (cs11 : x = 11 → KW E T V p l e R s m args below meth c nL k n Q pc L (.int x :: st)) : KW E T V p l e R s m args below meth c nL k n Q pc L (.int x :: st) := by
  by_cases h : x.toInt < 0 ∨ 11 < x.toInt
  · exact cD h
  · have hx : ∀ z : Int32, x.toInt = z.toInt → x = z := fun z h => Int32.toInt_inj.mp h
    rcases (show x.toInt = 0 ∨ x.toInt = 1 ∨ x.toInt = 2 ∨ x.toInt = 3 ∨ x.toInt = 4 ∨ x.toInt = 5 ∨ x.toInt = 6 ∨ x.toInt = 7 ∨ x.toInt = 8 ∨ x.toInt = 9 ∨ x.toInt = 10 ∨ x.toInt = 11 by omega) with h | h | h | h | h | h | h | h | h | h | h | h
    · exact cs0 (hx 0 h)
    · exact cs1 (hx 1 h)
    · exact cs2 (hx 2 h)
    · exact cs3 (hx 3 h)
    · exact cs4 (hx 4 h)
    · exact cs5 (hx 5 h)
    · exact cs6 (hx 6 h)
    · exact cs7 (hx 7 h)
    · exact cs8 (hx 8 h)
    · exact cs9 (hx 9 h)
    · exact cs10 (hx 10 h)
    · exact cs11 (hx 11 h)
theorem k_switch18 (pc : Nat) (C : Cx E p s m args meth c own cc nL ret) {x : Int32} (cD : x.toInt < 0 ∨ 17 < x.toInt → KW E T V p l e R s m args below meth c nL k n Q pc L (.int x :: st)) (cs0 : x = 0 → KW E T V p l e R s m args below meth c nL k n Q pc L (.int x :: st)) (cs1 : x = 1 → KW E T V p l e R s m args below meth c nL k n Q pc L (.int x :: st)) (cs2 : x = 2 → KW E T V p l e R s m args below meth c nL k n Q pc L (.int x :: st)) (cs3 : x = 3 → KW E T V p l e R s m args below meth c nL k n Q pc L (.int x :: st)) (cs4 : x = 4 → KW E T V p l e R s m args below meth c nL k n Q pc L (.int x :: st)) (cs5 : x = 5 → KW E T V p l e R s m args below meth c nL k n Q pc L (.int x :: st)) (cs6 : x = 6 → KW E T V p l e R s m args below meth c nL k n Q pc L (.int x :: st)) (cs7 : x = 7 → KW E T V p l e R s m args below meth c nL k n Q pc L (.int x :: st)) (cs8 : x = 8 → KW E T V p l e R s m args below meth c nL k n Q pc L (.int x :: st)) (cs9 : x = 9 → KW E T V p l e R s m args below meth c nL k n Q pc L (.int x :: st)) (cs10 : x = 10 → KW E T V p l e R s m args below meth c nL k n Q pc L (.int x :: st)) (cs11 : x = 11 → KW E T V p l e R s m args below meth c nL k n Q pc L (.int x :: st)) (cs12 : x = 12 → KW E T V p l e R s m args below meth c nL k n Q pc L (.int x :: st)) (cs13 : x = 13 → KW E T V p l e R s m args below meth c nL k n Q pc L (.int x :: st)) (cs14 : x = 14 → KW E T V p l e R s m args below meth c nL k n Q pc L (.int x :: st)) (cs15 : x = 15 → KW E T V p l e R s m args below meth c nL k n Q pc L (.int x :: st)) (cs16 : x = 16 → KW E T V p l e R s m args below meth c nL k n Q pc L (.int x :: st)) (cs17 : x = 17 → KW E T V p l e R s m args below meth c nL k n Q pc L (.int x :: st)) : KW E T V p l e R s m args below meth c nL k n Q pc L (.int x :: st) := by
  by_cases h : x.toInt < 0 ∨ 17 < x.toInt
  · exact cD h
  · have hx : ∀ z : Int32, x.toInt = z.toInt → x = z := fun z h => Int32.toInt_inj.mp h
    rcases (show x.toInt = 0 ∨ x.toInt = 1 ∨ x.toInt = 2 ∨ x.toInt = 3 ∨ x.toInt = 4 ∨ x.toInt = 5 ∨ x.toInt = 6 ∨ x.toInt = 7 ∨ x.toInt = 8 ∨ x.toInt = 9 ∨ x.toInt = 10 ∨ x.toInt = 11 ∨ x.toInt = 12 ∨ x.toInt = 13 ∨ x.toInt = 14 ∨ x.toInt = 15 ∨ x.toInt = 16 ∨ x.toInt = 17 by omega) with h | h | h | h | h | h | h | h | h | h | h | h | h | h | h | h | h | h
    · exact cs0 (hx 0 h)
    · exact cs1 (hx 1 h)
    · exact cs2 (hx 2 h)
    · exact cs3 (hx 3 h)
    · exact cs4 (hx 4 h)
    · exact cs5 (hx 5 h)
    · exact cs6 (hx 6 h)
    · exact cs7 (hx 7 h)
    · exact cs8 (hx 8 h)
    · exact cs9 (hx 9 h)
    · exact cs10 (hx 10 h)
    · exact cs11 (hx 11 h)
    · exact cs12 (hx 12 h)
    · exact cs13 (hx 13 h)
    · exact cs14 (hx 14 h)
    · exact cs15 (hx 15 h)
    · exact cs16 (hx 16 h)
    · exact cs17 (hx 17 h)
theorem k_switch21 (pc : Nat) (C : Cx E p s m args meth c own cc nL ret) {x : Int32} (cD : x.toInt < 0 ∨ 20 < x.toInt → KW E T V p l e R s m args below meth c nL k n Q pc L (.int x :: st)) (cs0 : x = 0 → KW E T V p l e R s m args below meth c nL k n Q pc L (.int x :: st)) (cs1 : x = 1 → KW E T V p l e R s m args below meth c nL k n Q pc L (.int x :: st)) (cs2 : x = 2 → KW E T V p l e R s m args below meth c nL k n Q pc L (.int x :: st)) (cs3 : x = 3 → KW E T V p l e R s m args below meth c nL k n Q pc L (.int x :: st)) (cs4 : x = 4 → KW E T V p l e R s m args below meth c nL k n Q pc L (.int x :: st)) (cs5 : x = 5 → KW E T V p l e R s m args below meth c nL k n Q pc L (.int x :: st)) (cs6 : x = 6 → KW E T V p l e R s m args below meth c nL k n Q pc L (.int x :: st)) (cs7 : x = 7 → KW E T V p l e R s m args below meth c nL k n Q pc L (.int x :: st)) (cs8 : x = 8 → KW E T V p l e R s m args below meth c nL k n Q pc L (.int x :: st)) (cs9 : x = 9 → KW E T V p l e R s m args below meth c nL k n Q pc L (.int x :: st)) (cs10 : x = 10 → KW E T V p l e R s m args below meth c nL k n Q pc L (.int x :: st)) (cs11 : x = 11 → KW E T V p l e R s m args below meth c nL k n Q pc L (.int x :: st)) (cs12 : x = 12 → KW E T V p l e R s m args below meth c nL k n Q pc L (.int x :: st)) (cs13 : x = 13 → KW E T V p l e R s m args below meth c nL k n Q pc L (.int x :: st)) (cs14 : x = 14 → KW E T V p l e R s m args below meth c nL k n Q pc L (.int x :: st)) (cs15 : x = 15 → KW E T V p l e R s m args below meth c nL k n Q pc L (.int x :: st)) (cs16 : x = 16 → KW E T V p l e R s m args below meth c nL k n Q pc L (.int x :: st)) (cs17 : x = 17 → KW E T V p l e R s m args below meth c nL k n Q pc L (.int x :: st)) (cs18 : x = 18 → KW E T V p l e R s m args below meth c nL k n Q pc L (.int x :: st)) (cs19 : x = 19 → KW E T V p l e R s m args below meth c nL k n Q pc L (.int x :: st)) (cs20 : x = 20 → KW E T V p l e R s m args below meth c nL k n Q pc L (.int x :: st)) : KW E T V p l e R s m args below meth c nL k n Q pc L (.int x :: st) := by
  by_cases h : x.toInt < 0 ∨ 20 < x.toInt
  · exact cD h
  · have hx : ∀ z : Int32, x.toInt = z.toInt → x = z := fun z h => Int32.toInt_inj.mp h
    rcases (show x.toInt = 0 ∨ x.toInt = 1 ∨ x.toInt = 2 ∨ x.toInt = 3 ∨ x.toInt = 4 ∨ x.toInt = 5 ∨ x.toInt = 6 ∨ x.toInt = 7 ∨ x.toInt = 8 ∨ x.toInt = 9 ∨ x.toInt = 10 ∨ x.toInt = 11 ∨ x.toInt = 12 ∨ x.toInt = 13 ∨ x.toInt = 14 ∨ x.toInt = 15 ∨ x.toInt = 16 ∨ x.toInt = 17 ∨ x.toInt = 18 ∨ x.toInt = 19 ∨ x.toInt = 20 by omega) with h | h | h | h | h | h | h | h | h | h | h | h | h | h | h | h | h | h | h | h | h
    · exact cs0 (hx 0 h)
    · exact cs1 (hx 1 h)
    · exact cs2 (hx 2 h)
    · exact cs3 (hx 3 h)
    · exact cs4 (hx 4 h)
    · exact cs5 (hx 5 h)
    · exact cs6 (hx 6 h)
    · exact cs7 (hx 7 h)
    · exact cs8 (hx 8 h)
    · exact cs9 (hx 9 h)
    · exact cs10 (hx 10 h)
    · exact cs11 (hx 11 h)
    · exact cs12 (hx 12 h)
    · exact cs13 (hx 13 h)
    · exact cs14 (hx 14 h)
    · exact cs15 (hx 15 h)
    · exact cs16 (hx 16 h)
    · exact cs17 (hx 17 h)
    · exact cs18 (hx 18 h)
    · exact cs19 (hx 19 h)
    · exact cs20 (hx 20 h)
theorem k_rwI {pc : Nat} {x y : Int32} (h : x = y) (K : KW E T V p l e R s m args below meth c nL k n Q pc L (.int y :: st)) : KW E T V p l e R s m args below meth c nL k n Q pc L (.int x :: st) := by subst h; exact K
theorem k_rwL {pc : Nat} {x y : Int64} (h : x = y) (K : KW E T V p l e R s m args below meth c nL k n Q pc L (.long y :: st)) : KW E T V p l e R s m args below meth c nL k n Q pc L (.long x :: st) := by subst h; exact K
theorem k_rwF {pc : Nat} {x y : UInt32} (h : x = y) (K : KW E T V p l e R s m args below meth c nL k n Q pc L (.float y :: st)) : KW E T V p l e R s m args below meth c nL k n Q pc L (.float x :: st) := by subst h; exact K
theorem k_rwQ {pc : Nat} {x y : Option Nat} (h : x = y) (K : KW E T V p l e R s m args below meth c nL k n Q pc L (va_rf y :: st)) : KW E T V p l e R s m args below meth c nL k n Q pc L (va_rf x :: st) := by subst h; exact K
theorem k_ifnullO (pc q : Nat) (C : Cx E p s m args meth c own cc nL ret) {x : Nat} {off : Int} (hd : decode cc pc = .ok (.ifnull off, 3)) (hq : pc + 3 = q) (K : KW E T V p l e R s m args below meth c nL k n Q q L st) : KW E T V p l e R s m args below meth c nL k n Q pc L (.ref x :: st) := by
  subst hq
  intro H ls locs hR hS hl
  exact lv_ifnull C.x C.b hd (K H ls locs hR hS hl)
theorem k_ifnonnullO (pc t : Nat) (C : Cx E p s m args meth c own cc nL ret) {x : Nat} {off : Int} (hd : decode cc pc = .ok (.ifnonnull off, 3)) (ht : (pc : Int) + off = (t : Int)) (K : KW E T V p l e R s m args below meth c nL k n Q t L st) : KW E T V p l e R s m args below meth c nL k n Q pc L (.ref x :: st) := fun H ls locs hR hS hl => lv_ifnonnull C.x C.b hd ht (K H ls locs hR hS hl)
theorem k_ifnullN (pc t : Nat) (C : Cx E p s m args meth c own cc nL ret) {off : Int} (hd : decode cc pc = .ok (.ifnull off, 3)) (ht : (pc : Int) + off = (t : Int)) (K : KW E T V p l e R s m args below meth c nL k n Q t L st) : KW E T V p l e R s m args below meth c nL k n Q pc L (.null :: st) := fun H ls locs hR hS hl => lv_ifnullN C.x C.b hd ht (K H ls locs hR hS hl)
theorem k_ifnonnullN (pc q : Nat) (C : Cx E p s m args meth c own cc nL ret) {off : Int} (hd : decode cc pc = .ok (.ifnonnull off, 3)) (hq : pc + 3 = q) (K : KW E T V p l e R s m args below meth c nL k n Q q L st) : KW E T V p l e R s m args below meth c nL k n Q pc L (.null :: st) := by
  subst hq
  intro H ls locs hR hS hl
  exact lv_ifnonnullN C.x C.b hd (K H ls locs hR hS hl)
theorem k_st {pc : Nat} {st' : List Value} (h : st = st') (K : KW E T V p l e R s m args below meth c nL k n Q pc L st') : KW E T V p l e R s m args below meth c nL k n Q pc L st := by subst h; exact K
theorem k_V {pc : Nat} {V' : gV} (h : V = V') (K : KW E T V' p l e R s m args below meth c nL k n Q pc L st) : KW E T V p l e R s m args below meth c nL k n Q pc L st := by subst h; exact K
end KWB

