/-! what the law's own steps need -/
/-- the state between two steps -/
def zLS (V : gV) (a k : Nat) : Prop := ∃ S h H, SQ V a S h H ∧ GI S k ∧ ∀ i, i < h → GI (H i) k
theorem zLS.of {V : gV} {a k k' : Nat} {S : Dk} {h : Nat} {H : Nat → Dk} {r0 : Nat} {ρ : Nat → Nat} {cs : Nat → Int32} (g : AVp V a S h H r0 ρ) (t : TC V (a + 29) cs 0) (z : GI S k) (zh : ∀ i, i < h → GI (H i) k) (hk : k ≤ k') : zLS V a k' := ⟨S, h, H, ⟨⟨_, _, g⟩, _, t⟩, z.mono hk, fun i hi => (zh i hi).mono hk⟩
theorem gh_step {h k : Nat} {H : Nat → Dk} {S : Dk} (g : ∀ i, i < h → GI (H i) k) (z : GI S k) (hl : h ≤ 4) : ∀ i, i < remN h → GI (remH S h H i) k := by
  intro i hi
  unfold remN at hi
  unfold remH
  by_cases e : h < 4
  · rw [if_pos e] at hi
    rw [if_pos e]
    by_cases ek : i = h
    · subst ek; rw [va_up_self]; exact z
    · rw [va_up_ne _ _ ek]; exact g i (by omega)
  · rw [if_neg e] at hi
    rw [if_neg e]
    by_cases ek : i = 3
    · subst ek; rw [va_up_self]; exact z
    · rw [va_up_ne _ _ ek]; exact g (i + 1) (by omega)
theorem remN_pos (h : Nat) : 0 < remN h ∧ (h ≤ 4 → remN h ≤ 4) := by unfold remN; split <;> omega
theorem remH_top {h : Nat} {H : Nat → Dk} {S : Dk} : remH S h H (remN h - 1) = S := by
  unfold remH remN
  by_cases e : h < 4
  · rw [if_pos e, if_pos e, Nat.add_sub_cancel, va_up_self]
  · rw [if_neg e, if_neg e, va_up_self]
theorem sq_undo {V V' : gV} {a : Nat} {S : Dk} {h : Nat} {H : Nat → Dk} {cs : Nat → Int32} {n : Nat} {r : Int32} (t : TC V (a + 29) cs n) (q : (remN h = 0 ∧ r = -2000000002 ∧ V' = V) ∨ (0 < remN h ∧ r = nI (remN h - 1) ∧ AVe V' a (remH S h H (remN h - 1)) (remN h - 1) (remH S h H) ∧ Keep V V' (a + 29) (a + 34) ∧ Off V V' a (a + 142))) : r = nI (remN h - 1) ∧ ∃ r0 ρ, AVp V' a S (remN h - 1) (remH S h H) r0 ρ ∧ TC V' (a + 29) cs n := by
  have z := (remN_pos h).1
  rcases q with ⟨q, -⟩ | ⟨-, e, ⟨r0, ρ, g⟩, k, o⟩
  · omega
  · rw [remH_top] at g
    exact ⟨e, r0, ρ, g, t.same k⟩
theorem sq_und0 {V V' : gV} {a : Nat} {H : Nat → Dk} {r : Int32} (q : (0 = 0 ∧ r = -2000000002 ∧ V' = V) ∨ (0 < 0 ∧ r = nI (0 - 1) ∧ AVe V' a (H (0 - 1)) (0 - 1) H ∧ Keep V V' (a + 29) (a + 34) ∧ Off V V' a (a + 142))) : r = -2000000002 ∧ V' = V := by
  rcases q with ⟨-, e1, e2⟩ | ⟨q, -⟩
  · exact ⟨e1, e2⟩
  · exact absurd q (Nat.lt_irrefl 0)
theorem okN {z lo hi : Nat} (h1 : lo ≤ z) (h2 : z ≤ hi) (h3 : hi < 2147483648) : okR (nI z) (nI lo) (nI hi) := ⟨fun q => by have := (nI_ltI (a := z) (b := lo) (by omega) (by omega)).mp q; omega, fun q => by have := (nI_ltI (a := hi) (b := z) (by omega) (by omega)).mp q; omega⟩
/-! point -/
theorem frm_eq {f : Nat → Int64} {S : Dk} (zr : Rel f S) {d q : Nat} (hd : d < kn S) (hq : q < kn S) : frm S q = nI d ↔ rpa (kdr S q) = nI d := by
  have n6 := zr.n6
  unfold frm
  by_cases e : rpa (kdr S q) = -1
  · rw [if_neg (fun z => z e), e]
    constructor
    · intro z
      have t2 := congrArg Int32.toInt z
      rw [nI_toInt (by omega)] at t2
      have : (-2000000004 : Int32).toInt = -2000000004 := by decide
      omega
    · intro z
      have t2 := congrArg Int32.toInt z
      rw [nI_toInt (by omega)] at t2
      have : (-1 : Int32).toInt = -1 := by decide
      omega
  · rw [if_pos e]
theorem frm_no {f : Nat → Int64} {S : Dk} (zr : Rel f S) {q : Nat} (hq : q < kn S) : frm S q = -2000000004 ↔ rpa (kdr S q) = -1 := by
  have n6 := zr.n6
  unfold frm
  by_cases e : rpa (kdr S q) = -1
  · rw [if_neg (fun z => z e)]; exact ⟨fun _ => e, fun _ => rfl⟩
  · rw [if_pos e]
    refine ⟨fun z => ?_, fun z => absurd z e⟩
    exfalso
    obtain ⟨K, hK⟩ := zr.K
    rcases (hK q hq).2.1 with ⟨y, -⟩ | ⟨u, hu, y, -⟩
    · exact e y
    · rw [y] at z
      have t2 := congrArg Int32.toInt z
      rw [nI_toInt (by omega)] at t2
      have : (-2000000004 : Int32).toInt = -2000000004 := by decide
      omega
/-- whether a drawing is a copy, or copied by one of the first -/
def zcB (S : Dk) (d n : Nat) : Bool := !decide (rpa (kdr S d) = -1) || hcp S (nI d) n
def fl (b : Bool) : Int32 := if b = true then 1 else 0
theorem fl_t {b : Bool} (h : b = true) : fl b = 1 := if_pos h
theorem fl_f {b : Bool} (h : b = false) : fl b = 0 := if_neg (by rw [h]; decide)
theorem fl_nz {b : Bool} (h : ¬ fl b = 0) : b = true := by
  cases b with
  | true => rfl
  | false => exact absurd (fl_f rfl) h
theorem fl_z {b : Bool} (h : fl b = 0) : b = false := by
  cases b with
  | false => rfl
  | true => rw [fl_t rfl] at h; exact absurd h (by decide)
theorem hs_1 {S : Dk} {x : Int32} {n : Nat} (h : ¬ fl (hcp S x n) = 0) : fl (hcp S x (n + 1)) = 1 := by
  refine fl_t ?_
  unfold hcp
  rw [fl_nz h]; rfl
theorem hs_2 {f : Nat → Int64} {S : Dk} (zr : Rel f S) {d n : Nat} (hd : d < kn S) (hn : n < kn S) (h : frm S n = nI d) : fl (hcp S (nI d) (n + 1)) = 1 := fl_t (hcp_mono (Nat.lt_succ_self n) ((frm_eq zr hd hn).mp h))
theorem hs_3 {f : Nat → Int64} {S : Dk} (zr : Rel f S) {d n : Nat} (hd : d < kn S) (hn : n < kn S) (h0 : fl (hcp S (nI d) n) = 0) (h : ¬ frm S n = nI d) : fl (hcp S (nI d) (n + 1)) = 0 := by
  refine fl_f ?_
  unfold hcp
  rw [fl_z h0, decide_eq_false (fun z => h ((frm_eq zr hd hn).mpr z))]; rfl
theorem cs_1 {S : Dk} {d n : Nat} (h : ¬ fl (zcB S d n) = 0) : fl (zcB S d (n + 1)) = 1 := by
  refine fl_t ?_
  have z := fl_nz h
  unfold zcB at z ⊢
  unfold hcp
  rw [← Bool.or_assoc, z]; rfl
theorem cs_2 {f : Nat → Int64} {S : Dk} (zr : Rel f S) {d n : Nat} (hd : d < kn S) (hn : n < kn S) (h : frm S n = nI d) : fl (zcB S d (n + 1)) = 1 := by
  refine fl_t ?_
  unfold zcB
  rw [hcp_mono (Nat.lt_succ_self n) ((frm_eq zr hd hn).mp h), Bool.or_true]
theorem cs_3 {f : Nat → Int64} {S : Dk} (zr : Rel f S) {d n : Nat} (hd : d < kn S) (hn : n < kn S) (h0 : fl (zcB S d n) = 0) (h : ¬ frm S n = nI d) : fl (zcB S d (n + 1)) = 0 := by
  refine fl_f ?_
  have z := fl_z h0
  unfold zcB at z ⊢
  unfold hcp
  rw [← Bool.or_assoc, z, decide_eq_false (fun z => h ((frm_eq zr hd hn).mpr z))]; rfl
theorem cs_0 {f : Nat → Int64} {S : Dk} (zr : Rel f S) {d : Nat} (hd : d < kn S) : (frm S d = -2000000004 → fl (zcB S d 0) = 0) ∧ (¬ frm S d = -2000000004 → fl (zcB S d 0) = 1) := by
  constructor
  · intro h
    refine fl_f ?_
    unfold zcB
    rw [decide_eq_true ((frm_no zr hd).mp h)]; rfl
  · intro h
    refine fl_t ?_
    unfold zcB
    rw [decide_eq_false (fun z => h ((frm_no zr hd).mpr z))]; rfl
theorem pn_1 {f : Nat → Int64} {S : Dk} (zr : Rel f S) {d : Nat} {x y q : Int32} (hd : d < kn S) (hx : okR x 0 1000) (hy : okR y 0 1000) (hq : okR q 0 1) (h : zcB S d (kn S) = true) : cPnt S (nI d) x y q = (-2000000002, none) := by
  have n6 := zr.n6
  have e : (nI d).toNatClampNeg = d := nI_clamp (by omega)
  unfold cPnt
  rw [e, if_neg (fun z => z ⟨jin n6 hd, hx, hy, hq⟩), if_pos]
  unfold zcB at h
  rcases Bool.or_eq_true_iff.mp h with z | z
  · refine Or.inl (fun y => ?_)
    rw [decide_eq_true y] at z; exact absurd z (by decide)
  · exact Or.inr z
theorem zcB_no {S : Dk} {d n : Nat} (h : zcB S d n = false) : rpa (kdr S d) = -1 ∧ ¬ hcp S (nI d) n = true := by
  unfold zcB at h
  rw [Bool.or_eq_false_iff] at h
  refine ⟨?_, by rw [h.2]; decide⟩
  by_cases e : rpa (kdr S d) = -1
  · exact e
  · rw [decide_eq_false e] at h; exact absurd h.1 (by decide)
theorem pn_2 {f : Nat → Int64} {S : Dk} (zr : Rel f S) {d : Nat} {x y q : Int32} (hd : d < kn S) (hx : okR x 0 1000) (hy : okR y 0 1000) (hq : okR q 0 1) (h : zcB S d (kn S) = false) (h20 : ¬ rn (kdr S d) < 20) : cPnt S (nI d) x y q = (-2000000003, none) := by
  have n6 := zr.n6
  have e : (nI d).toNatClampNeg = d := nI_clamp (by omega)
  have z := zcB_no h
  unfold cPnt
  rw [e, if_neg (fun z => z ⟨jin n6 hd, hx, hy, hq⟩), if_neg (fun y => y.elim (fun y => y z.1) z.2), if_pos h20]
/-- the point that was added -/
theorem pt_all {f f1 : Nat → Int64} {S S1 : Dk} {d k1 : Nat} {x y q : Int32} (zr : Rel f S) (hd : d < kn S) (ho : rpa (kdr S d) = -1) (hq : q = 0 ∨ q = 1) (zr1 : Rel f1 S1) (zg1 : GI S1 k1) (hd1 : d < kn S1) (kd : kdr S1 d = dAdd (kdr S d) x.toInt64 y.toInt64 (if q = 1 then 1 else -1)) : cPnI S1 (nI d) (nI (rn (kdr S d))) (nI 0) = x.toInt64 ∧ cPnI S1 (nI d) (nI (rn (kdr S d))) (nI 2) = y.toInt64 ∧ cPnI S1 (nI d) (nI (rn (kdr S d))) (nI 4) = (if rn (kdr S d) = 0 then 0 else q.toInt64) ∧ cAtO S1 (nI d) (nI (rn (kdr S d))) (nI 0) = x.toInt64 ∧ cAtO S1 (nI d) (nI (rn (kdr S d))) (nI 3) = 1 := by
  have n6 := zr1.n6
  have o1 : rpa (kdr S1 d) = -1 := by rw [kd]; exact ho
  obtain ⟨c1, ep, es⟩ := org_is zr1 hd1 o1
  have oi := (zg1.2.1 d hd1).1 o1
  have er : rn (kdr S1 d) = rn (kdr S d) + 1 := by rw [kd]; rfl
  have hp : rn (kdr S d) < rn (kdr S1 d) := by omega
  have n20 := zr1.n20 d hd1
  have v := vX_n hp n20
  have an := dAdd_n (d := kdr S d) (x := x.toInt64) (y := y.toInt64) (l := if q = 1 then 1 else -1)
  rw [← kd] at an
  have ix : iX (kdr S1 d) (rn (kdr S d)) = x.toInt := by rw [an.1, Int32.toInt_toInt64]
  have iy : iY (kdr S1 d) (rn (kdr S d)) = y.toInt := by rw [an.2.1, Int32.toInt_toInt64]
  have l := lw_of zr1 hd1 hp
  rw [ep, ix, iy, (LN_1 _).1, (LN_1 _).2, (LN_1 _).1, (LN_1 _).2] at l
  have or0 : orgF S1 6 (nI d) = nI d := orgF_org o1 (by omega)
  have es1 : rsc (kdr S1 d) = 1 := by
    have : rsc (kdr S1 d) = J (iS (kdr S1 d)) := J_of _
    rw [this, es]; rfl
  have ao : ∀ w, cAtO S1 (nI d) (nI (rn (kdr S d))) w = cAO S1 (kdr S1 d) (kdr S1 d) (nI (rn (kdr S d))) w := fun w => by
    unfold cAtO
    rw [or0, nI_clamp (show d < 2 ^ 31 by omega), if_pos ⟨⟨jin n6 hd1, jin n6 hd1⟩, jin20 n20 hp⟩]
  refine ⟨?_, ?_, ?_, ?_, ?_⟩
  · rw [pi_0 zr1 hd1 hp, ep, ix, (LN_1 _).1, ← i32_J]
  · rw [pi_2 zr1 hd1 hp, ep, iy, (LN_1 _).1, ← i32_J]
  · rw [pi_4 zr1 hd1 hp]
    unfold jI
    rw [an.2.2]
    by_cases e : rn (kdr S d) = 0
    · rw [if_pos e, if_pos e, if_pos rfl]
    · rw [if_neg e, if_neg e]
      rcases hq with z | z
      · rw [z]; rfl
      · rw [z]; rfl
  · rw [ao, cAO_0, v.1, es1, oi.1.1, oi.2.1.1, show (1 : Int64) * (1 : Int32).toInt64 * rX (kdr S1 d) (rn (kdr S d)) + 0 = rX (kdr S1 d) (rn (kdr S d)) from by
      rw [show (1 : Int64) * (1 : Int32).toInt64 = 1 from rfl, Int64.one_mul, Int64.add_zero], l.1.1, ← i32_J]
  · rw [ao, cAO_3, v.2.1, es1, oi.1.2, oi.2.1.2, show (1 : Int64) * (1 : Int32).toInt64 * rY (kdr S1 d) (rn (kdr S d)) + 0 = rY (kdr S1 d) (rn (kdr S d)) from by
      rw [show (1 : Int64) * (1 : Int32).toInt64 = 1 from rfl, Int64.one_mul, Int64.add_zero], l.2.2]
    rfl
/-! the settings -/
theorem set_0 {z : Nat} (h : z < 3) : okR (nI z) (leastv 0) (mostv 0) := okN (lo := 0) (hi := 2) (by omega) (by omega) (by decide)
theorem set_1 {z : Nat} (h : z < 51) : okR (nI z) (leastv 1) (mostv 1) := okN (lo := 0) (hi := 50) (by omega) (by omega) (by decide)
theorem set_2 {z w : Nat} (hw : w = 2 ∨ w = 3) (h : z < 801) : okR (nI (200 + z)) (leastv w) (mostv w) := by
  rcases hw with rfl | rfl <;> exact okN (lo := 10) (hi := 1000) (by omega) (by omega) (by decide)
theorem set_4 {z : Nat} (h : z < 300) : okR (nI (1 + z)) (leastv 4) (mostv 4) := okN (lo := 1) (hi := 1000) (by omega) (by omega) (by decide)
theorem cCnt_set {S : Dk} {h zn w : Nat} (hw : w < 5) : cCnt S h zn (nI (5 + w)) = ks S w := by
  have q : w = 0 ∨ w = 1 ∨ w = 2 ∨ w = 3 ∨ w = 4 := by omega
  rcases q with rfl | rfl | rfl | rfl | rfl
  · exact cCnt_5
  · exact cCnt_6
  · exact cCnt_7
  · exact cCnt_8
  · exact cCnt_9
/-! sharpening, removing, drawing -/
theorem shp_c {f : Nat → Int64} {S : Dk} (zr : Rel f S) : (¬ kf S 6 = 0 → 1 ≤ kf S 6) ∧ (kf S 6 = 0 → ¬ 1 ≤ kf S 6) := by
  have r6 := zr.r.2.2.2
  constructor
  · intro h
    rw [Int32.le_iff_toInt_le]
    have e1 : (1 : Int32).toInt = 1 := by decide
    have : ¬ (kf S 6).toInt = 0 := fun z => h (Int32.toInt_inj.mp (by rw [z]; rfl))
    have := r6.1; omega
  · intro h; rw [h]; decide
theorem cShp_1 {S : Dk} (h : 1 ≤ kf S 6) : cShp S = (kf S 5, some (va_up (va_up (kf S) 6 (kf S 6 - 1)) 5 0, ks S, kn S, kdr S)) := if_pos h
theorem cShp_0 {S : Dk} (h : ¬ 1 ≤ kf S 6) : cShp S = (-2000000003, none) := if_neg h
theorem cRem_no {S : Dk} {d : Nat} (h6 : kn S ≤ 6) (hd : d < kn S) (hc : hcp S (nI d) (kn S) = true) : cRem S (nI d) = (-2000000002, none) := by
  have e : (nI d).toNatClampNeg = d := nI_clamp (by omega)
  unfold cRem
  rw [if_neg (fun z => z (jin h6 hd)), if_pos hc]
theorem rm_at {S : Dk} {d : Nat} (h : d + 1 < kn S) : rn (kdr (rmS S d (kn S - 1)) d) = rn (kdr S (d + 1)) := by
  have e : kdr (rmS S d (kn S - 1)) d = decD (nI d) (kdr S (shf d d)) := if_pos (by omega)
  have s : shf d d = d + 1 := by unfold shf; rw [if_neg (Nat.lt_irrefl d)]
  rw [e, s]
  unfold decD
  split <;> rfl
theorem cDrw_no {S : Dk} (h : ¬ kn S < 6) : cDrw S = (-2000000003, none) := if_neg h
/-! the empty text -/
theorem pp_0 (cs : Nat → Int32) (fa : Int32) (xs ys jn : Nat → Int32) : prs (pParse cs 0 fa xs ys jn) = 2 ∧ pfa (pParse cs 0 fa xs ys jn) = 0 := by
  have hh : ∀ n, hereC cs 0 n = 0 := fun n => if_neg (Nat.not_lt_zero n)
  have d0 : dig cs 0 4 0 0 = (0, 0) := if_neg (fun z => z.1 (by rw [hh]; decide))
  have n1 : ∀ P : Pt, pat P = 0 → pNum cs 0 P = (pFH (pAt P 0) 0, 0) := fun P hP => by
    unfold pNum; rw [hP, d0, if_pos rfl]
  have e0 : pPre cs 0 (0, fa, 0, 0, xs, ys, jn) = (0, fa, 0, 0, xs, ys, jn) := if_pos (show (0 : Nat) < 20 by decide)
  have e1 : pNum cs 0 (0, fa, 0, 0, xs, ys, jn) = ((0, 0, 2, 0, xs, ys, jn), 0) := (n1 _ rfl).trans rfl
  have e2 : pNum cs 0 (0, 0, 2, 0, xs, ys, jn) = ((0, 0, 2, 0, xs, ys, jn), 0) := (n1 _ rfl).trans rfl
  have x1 : ∀ ch, pExp cs 0 (0, 0, 2, 0, xs, ys, jn) ch = (0, 0, 2, 0, xs, ys, jn) := fun ch => if_neg (show ¬ (2 : Int32) = 0 by decide)
  have m1 : pMid cs 0 (0, fa, 0, 0, xs, ys, jn) = (0, 0, 2, 0, xs, ys, jn) := by unfold pMid; rw [e0, e1]; exact x1 44
  have q1 : ∀ j, pPoint cs 0 (0, fa, 0, 0, xs, ys, jn) j = (0, 0, 2, 0, xs, ys, jn) := fun j => by
    unfold pPoint
    rw [m1, e2]
    exact if_neg (fun z => absurd z.1 (show ¬ (2 : Int32) = 0 by decide))
  have t1 : pStep cs 0 (0, 0, 2, 0, xs, ys, jn) = ((0, 0, 2, 0, xs, ys, jn), 0) := if_neg (fun z => absurd z.1 (show ¬ (2 : Int32) = 0 by decide))
  have l1 : pLoop cs 0 21 (0, fa, 0, 0, xs, ys, jn) 0 1 = (0, 0, 2, 0, xs, ys, jn) := by
    show (if (1 : Int32) = 0 then _ else pLoop cs 0 20 (pStep cs 0 (pPoint cs 0 (0, fa, 0, 0, xs, ys, jn) 0)).1 _ (pStep cs 0 (pPoint cs 0 (0, fa, 0, 0, xs, ys, jn) 0)).2) = _
    rw [if_neg (by decide), q1, t1]
    exact if_pos rfl
  have f1 : pParse cs 0 fa xs ys jn = (0, 0, 2, 0, xs, ys, jn) := by
    unfold pParse
    rw [l1]
    unfold pFin
    rw [x1]
    exact if_neg (fun z => absurd z.1 (show ¬ (2 : Int32) = 0 by decide))
  rw [f1]
  exact ⟨rfl, rfl⟩
/-! the changes, each with what the law sees of it -/
theorem arm_s {V V' : gV} {a : Nat} {S : Dk} {h : Nat} {H : Nat → Dk} {cs : Nat → Int32} {r : Int32} {kk : Nat} {x y : Int32} (t : TC V (a + 29) cs 0) (q : r = (cArm S x y).1 ∧ After V V' a S h H (cArm S x y).2) (h1 : okR x 1 20) (h2 : okR y 1 20) (zg : GI S kk) : ∃ S1, r = 100 * kf S 0 + kf S 1 ∧ (∃ r0 ρ, AVp V' a S1 (remN h) (remH S h H) r0 ρ ∧ TC V' (a + 29) cs 0) ∧ GI S1 kk ∧ kf S1 0 = x ∧ kf S1 2 = kf S 2 ∧ kf S1 3 = kf S 3 := by
  obtain ⟨e1, g⟩ := sq_yes t q (cArm_ok h1 h2)
  exact ⟨_, e1, g, gi_arm zg h1 h2, by show va_up (va_up (kf S) 0 x) 1 y 0 = x; rw [va_up_ne _ _ (by decide), va_up_self], by show va_up (va_up (kf S) 0 x) 1 y 2 = _; rw [va_up_ne _ _ (by decide), va_up_ne _ _ (by decide)], by show va_up (va_up (kf S) 0 x) 1 y 3 = _; rw [va_up_ne _ _ (by decide), va_up_ne _ _ (by decide)]⟩
theorem piv_s {V V' : gV} {a : Nat} {S : Dk} {h : Nat} {H : Nat → Dk} {cs : Nat → Int32} {r : Int32} {kk : Nat} {x y : Int32} (t : TC V (a + 29) cs 0) (q : r = (cPiv S x y).1 ∧ After V V' a S h H (cPiv S x y).2) (h1 : okR x 0 1000) (h2 : okR y 0 1000) (zg : GI S kk) : ∃ S1, r = 10000 * kf S 2 + kf S 3 ∧ (∃ r0 ρ, AVp V' a S1 (remN h) (remH S h H) r0 ρ ∧ TC V' (a + 29) cs 0) ∧ GI S1 kk ∧ kf S1 2 = x := by
  obtain ⟨e1, g⟩ := sq_yes t q (cPiv_ok h1 h2)
  exact ⟨_, e1, g, gi_pivot zg h1 h2, by show va_up (va_up (kf S) 2 x) 3 y 2 = x; rw [va_up_ne _ _ (by decide), va_up_self]⟩
theorem set_s {V V' : gV} {a : Nat} {S : Dk} {h : Nat} {H : Nat → Dk} {cs : Nat → Int32} {r : Int32} {kk : Nat} {w : Nat} {v : Int32} (t : TC V (a + 29) cs 0) (q : r = (cSet S (nI w) v).1 ∧ After V V' a S h H (cSet S (nI w) v).2) (h1 : w < 5) (h2 : okR v (leastv w) (mostv w)) (zg : GI S kk) : ∃ S1, r = ks S w ∧ (∃ r0 ρ, AVp V' a S1 (remN h) (remH S h H) r0 ρ ∧ TC V' (a + 29) cs 0) ∧ GI S1 kk ∧ ks S1 w = v := by
  obtain ⟨e1, g⟩ := sq_yes t q (cSet_ok h1 h2)
  exact ⟨_, e1, g, gi_set zg h1 h2, va_up_self _ _ _⟩
theorem shp_s {V V' : gV} {a : Nat} {S : Dk} {h : Nat} {H : Nat → Dk} {cs : Nat → Int32} {r : Int32} {kk : Nat} (t : TC V (a + 29) cs 0) (q : r = (cShp S).1 ∧ After V V' a S h H (cShp S).2) (h1 : 1 ≤ kf S 6) (zg : GI S kk) : ∃ S1, r = kf S 5 ∧ (∃ r0 ρ, AVp V' a S1 (remN h) (remH S h H) r0 ρ ∧ TC V' (a + 29) cs 0) ∧ GI S1 kk ∧ kf S1 5 = 0 ∧ kf S1 6 = kf S 6 - 1 := by
  obtain ⟨e1, g⟩ := sq_yes t q (cShp_1 h1)
  exact ⟨_, e1, g, gi_sharpen zg h1, (by show va_up (va_up (kf S) 6 (kf S 6 - 1)) 5 0 5 = 0; rw [va_up_self]), by show va_up (va_up (kf S) 6 (kf S 6 - 1)) 5 0 6 = _; rw [va_up_ne _ _ (by decide), va_up_self]⟩
theorem drw_s {V V' : gV} {a : Nat} {S : Dk} {h : Nat} {H : Nat → Dk} {cs : Nat → Int32} {r : Int32} {kk : Nat} (t : TC V (a + 29) cs 0) (q : r = (cDrw S).1 ∧ After V V' a S h H (cDrw S).2) (h1 : kn S < 6) (zg : GI S kk) : ∃ S1, r = nI (kn S) ∧ (∃ r0 ρ, AVp V' a S1 (remN h) (remH S h H) r0 ρ ∧ TC V' (a + 29) cs 0) ∧ GI S1 kk ∧ kn S1 = kn S + 1 ∧ kdr S1 (kn S) = dBegin (-1) 1 1 := by
  obtain ⟨e1, g⟩ := sq_yes t q (cDrw_ok h1)
  exact ⟨_, e1, g, gi_draw zg h1, rfl, va_up_self _ _ _⟩
theorem pnt_s {V V' : gV} {a : Nat} {S : Dk} {h : Nat} {H : Nat → Dk} {cs : Nat → Int32} {r : Int32} {kk : Nat} {f : Nat → Int64} (zr : Rel f S) {d : Nat} {x y z : Int32} (t : TC V (a + 29) cs 0) (q : r = (cPnt S (nI d) x y z).1 ∧ After V V' a S h H (cPnt S (nI d) x y z).2) (hd : d < kn S) (hb : zcB S d (kn S) = false) (h20 : rn (kdr S d) < 20) (hx : okR x 0 1000) (hy : okR y 0 1000) (hz : okR z 0 1) (zg : GI S kk) : ∃ S1, r = nI (rn (kdr S d)) ∧ (∃ r0 ρ, AVp V' a S1 (remN h) (remH S h H) r0 ρ ∧ TC V' (a + 29) cs 0) ∧ GI S1 kk ∧ kn S1 = kn S ∧ kdr S1 d = dAdd (kdr S d) x.toInt64 y.toInt64 (if z = 1 then 1 else -1) := by
  obtain ⟨ho, hc⟩ := zcB_no hb
  obtain ⟨e1, g⟩ := sq_yes t q (cPnt_ok zr.n6 hd ho hc h20 hx hy hz)
  exact ⟨_, e1, g, gi_point zg hd ho hc h20 hx hy hz, rfl, va_up_self _ _ _⟩
theorem rem_s {V V' : gV} {a : Nat} {S : Dk} {h : Nat} {H : Nat → Dk} {cs : Nat → Int32} {r : Int32} {kk : Nat} {f : Nat → Int64} (zr : Rel f S) {d : Nat} (t : TC V (a + 29) cs 0) (q : r = (cRem S (nI d)).1 ∧ After V V' a S h H (cRem S (nI d)).2) (hd : d < kn S) (hc : hcp S (nI d) (kn S) = false) (zg : GI S kk) : ∃ S1, r = nI (kn S - 1) ∧ (∃ r0 ρ, AVp V' a S1 (remN h) (remH S h H) r0 ρ ∧ TC V' (a + 29) cs 0) ∧ GI S1 kk ∧ kn S1 = kn S - 1 ∧ (d + 1 < kn S → rn (kdr S1 d) = rn (kdr S (d + 1))) := by
  have hc' : ¬ hcp S (nI d) (kn S) = true := by rw [hc]; decide
  obtain ⟨e1, g⟩ := sq_yes t q (cRem_ok zr.n6 hd hc')
  exact ⟨_, e1, g, gi_remove zg hd hc', rfl, rm_at⟩
