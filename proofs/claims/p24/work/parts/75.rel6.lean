/-! a copy as it is traced -/
abbrev aI (S : Dk) : Int := (kf S 0).toInt
abbrev bI (S : Dk) : Int := (kf S 1).toInt
abbrev qI (S : Dk) (d : Dr) : Int := iP d * bI S
abbrev tI (S : Dk) (d : Dr) : Int := (ks S 1).toInt * qI S d
abbrev xI (S : Dk) (d : Dr) (x : Int) : Int := axX (kf S 2).toInt (iP d) (bI S) (sgX S).toInt (aI S) x
abbrev yI (S : Dk) (d : Dr) (x : Int) : Int := axX (kf S 3).toInt (iP d) (bI S) (sgY S).toInt (aI S) x
theorem sgX_1 (S : Dk) : (sgX S = 1 ∨ sgX S = -1) ∧ (sgY S = 1 ∨ sgY S = -1) := by
  unfold sgX sgY
  refine ⟨?_, ?_⟩
  · split
    · exact Or.inl rfl
    · exact Or.inr rfl
  · split
    · exact Or.inr rfl
    · exact Or.inl rfl
theorem sgf_is {h : Nat → Int64} {S : Dk} (h4 : h 4 = (ks S 0).toInt64) (r : Rg (ks S 0) 0 2) : sgf h 0 = sgX S ∧ sgf h 1 = sgY S := by
  obtain ⟨n, hn, en⟩ := rg_n (N := 2) r (by decide)
  have z : n = 0 ∨ n = 1 ∨ n = 2 := by omega
  unfold sgf sgX sgY
  rw [h4, en]
  rcases z with rfl | rfl | rfl <;> exact ⟨by decide, by decide⟩
/-- the numbers of the copy -/
theorem tr_P {f : Nat → Int64} {S : Dk} {d : Nat} {num : Int32} (g : Rel f S) (hd : d < kn S) : iP (trD S num (kdr S d)) = qI S (kdr S d) ∧ iS (trD S num (kdr S d)) = iS (kdr S d) * aI S ∧ 0 < qI S (kdr S d) ∧ qI S (kdr S d) ≤ 20 * iP (kdr S d) ∧ 0 < iS (kdr S d) * aI S ∧ iS (kdr S d) * aI S ≤ 20 * iS (kdr S d) := by
  have b := g.b d hd
  have ra : 1 ≤ aI S ∧ aI S ≤ 20 := g.r.1.1
  have rb : 1 ≤ bI S ∧ bI S ≤ 20 := g.r.1.2.1
  have m1 := Int.mul_pos b.1.1 (show 0 < bI S by omega)
  have m2 := Int.mul_le_mul (Int.le_refl (iP (kdr S d))) rb.2 (by omega) (by omega)
  have m3 := Int.mul_pos b.2.1.1 (show 0 < aI S by omega)
  have m4 := Int.mul_le_mul (Int.le_refl (iS (kdr S d))) ra.2 (by omega) (by omega)
  refine ⟨?_, ?_, m1, (show iP (kdr S d) * bI S ≤ 20 * iP (kdr S d) by omega), m3, by omega⟩
  · show (rpt (kdr S d) * (kf S 1).toInt64).toInt = _
    rw [show rpt (kdr S d) = J (iP (kdr S d)) from J_of _, show (kf S 1).toInt64 = J (bI S) from i32_J _, J_mul, J_ti ⟨by omega, by omega⟩]
  · show (rsc (kdr S d) * (kf S 0).toInt64).toInt = _
    rw [show rsc (kdr S d) = J (iS (kdr S d)) from J_of _, show (kf S 0).toInt64 = J (aI S) from i32_J _, J_mul, J_ti ⟨by omega, by omega⟩]
/-- what an aim can be at most -/
theorem xI_ab {f : Nat → Int64} {S : Dk} {d : Nat} {B x : Int} (g : Rel f S) (hd : d < kn S) (hx : Ab x B) : Ab (xI S (kdr S d) x) (20 * B + 40000 * iP (kdr S d)) ∧ Ab (yI S (kdr S d) x) (20 * B + 40000 * iP (kdr S d)) := by
  have b := g.b d hd
  have r := g.r.1
  exact ⟨axX_ab r.2.2.1.1 r.2.2.1.2 b.1.1 r.2.1.1 r.2.1.2 (sgn_ab (sgX_1 S).1) r.1.1 r.1.2 hx, axX_ab r.2.2.2.1 r.2.2.2.2 b.1.1 r.2.1.1 r.2.1.2 (sgn_ab (sgX_1 S).2) r.1.1 r.1.2 hx⟩
theorem tr_H {f : Nat → Int64} {S : Dk} {d : Nat} {num : Int32} (g : Rel f S) (hd : d < kn S) : iH (trD S num (kdr S d)) = xI S (kdr S d) (iH (kdr S d)) ∧ iG (trD S num (kdr S d)) = yI S (kdr S d) (iG (kdr S d)) := by
  have b := g.b d hd
  have a1 := (xI_ab g hd b.2.2.1.1).1
  have a2 := (xI_ab g hd b.2.2.1.2).2
  refine ⟨?_, ?_⟩
  · show (sAim S (rhx (kdr S d)) (rpt (kdr S d)) (kf S 2) (sgX S)).toInt = _
    rw [sAim_J g.r.1.1 (sgX_1 S).1]
    exact J_ti (show Bd (xI S (kdr S d) (iH (kdr S d))) from ⟨by omega, by omega⟩)
  · show (sAim S (rhy (kdr S d)) (rpt (kdr S d)) (kf S 3) (sgY S)).toInt = _
    rw [sAim_J g.r.1.1 (sgX_1 S).2]
    exact J_ti (show Bd (yI S (kdr S d) (iG (kdr S d))) from ⟨by omega, by omega⟩)
abbrev jn (d : Dr) (i : Nat) : Bool := decide (¬ rl d i = -1)
theorem tr_t {f : Nat → Int64} {S : Dk} {d : Nat} (g : Rel f S) (hd : d < kn S) : trP S (kdr S d) = J (tI S (kdr S d)) ∧ 0 ≤ tI S (kdr S d) ∧ tI S (kdr S d) ≤ 50 * (20 * iP (kdr S d)) := by
  have q := tr_P (num := 0) g hd
  have rp := g.r.2.1.2.1
  have m1 := Int.mul_nonneg rp.1 (show 0 ≤ qI S (kdr S d) by omega)
  have m2 := Int.mul_le_mul rp.2 q.2.2.2.1 (by omega) (by decide)
  refine ⟨?_, m1, m2⟩
  unfold trP
  rw [show rpt (kdr S d) = J (iP (kdr S d)) from J_of _, i32_J, i32_J, J_mul, J_mul]
/-- the places of the copy, and how great they are -/
theorem tr_X {f : Nat → Int64} {S : Dk} {d k : Nat} {num : Int32} (g : Rel f S) (hd : d < kn S) (hk : k ≤ 4) (c : CIv (kdr S d) k) : ∀ i, i < rn (kdr S d) → (Ab (iX (trD S num (kdr S d)) i) (bn (k + 1)) ∧ iX (trD S num (kdr S d)) i = axR (jn (kdr S d) i) (tI S (kdr S d)) (xI S (kdr S d) (iX (kdr S d) i)) (iX (trD S num (kdr S d)) (i - 1))) ∧ Ab (iY (trD S num (kdr S d)) i) (bn (k + 1)) ∧ iY (trD S num (kdr S d)) i = axR (jn (kdr S d) i) (tI S (kdr S d)) (yI S (kdr S d) (iY (kdr S d) i)) (iY (trD S num (kdr S d)) (i - 1)) := by
  have n20 := g.n20 d hd
  have eb : bn (k + 1) = 20 * bn k + 41000 * pw k := rfl
  have pb := pw_le (k := k) (by omega)
  have bb := bn_le (k := k) (by omega)
  have bb1 := bn_le (k := k + 1) (by omega)
  obtain ⟨tP, t0, t1⟩ := tr_t g hd
  have c1 := c.1
  intro i
  induction i with
  | zero =>
    intro hi
    have v := vX_n hi n20
    have cx := c.2.2.2.1 0 hi
    have a1 := (xI_ab g hd cx.1).1
    have a2 := (xI_ab g hd cx.2).2
    have r0 : rl (kdr S d) 0 = -1 := (g.l d hd).2 hi
    have j0 : jn (kdr S d) 0 = false := decide_eq_false (fun z => z r0)
    have e1 : iX (trD S num (kdr S d)) 0 = xI S (kdr S d) (iX (kdr S d) 0) := by
      show (trX S (kdr S d) 0).toInt = _
      rw [trX_u (by rw [v.2.2]; exact r0), v.1, sAim_J g.r.1.1 (sgX_1 S).1]
      exact J_ti (show Bd (xI S (kdr S d) (iX (kdr S d) 0)) from ⟨by omega, by omega⟩)
    have e2 : iY (trD S num (kdr S d)) 0 = yI S (kdr S d) (iY (kdr S d) 0) := by
      show (trY S (kdr S d) 0).toInt = _
      rw [trY_u (by rw [v.2.2]; exact r0), v.2.1, sAim_J g.r.1.1 (sgX_1 S).2]
      exact J_ti (show Bd (yI S (kdr S d) (iY (kdr S d) 0)) from ⟨by omega, by omega⟩)
    rw [j0]
    refine ⟨⟨?_, e1⟩, ?_, e2⟩
    · rw [e1]; exact a1.w (by omega)
    · rw [e2]; exact a2.w (by omega)
  | succ i ih =>
    intro hi
    obtain ⟨⟨ix1, -⟩, iy1, -⟩ := ih (by omega)
    have v := vX_n hi n20
    have cx := c.2.2.2.1 (i + 1) hi
    have a1 := (xI_ab g hd cx.1).1
    have a2 := (xI_ab g hd cx.2).2
    have a3 : Ab (xI S (kdr S d) (iX (kdr S d) (i + 1))) (bn (k + 1)) := a1.w (by omega)
    have a4 : Ab (yI S (kdr S d) (iY (kdr S d) (i + 1))) (bn (k + 1)) := a2.w (by omega)
    have r1 := axR_ab (j := jn (kdr S d) (i + 1)) (t := tI S (kdr S d)) a3 (fun _ => ix1) t0
    have r2 := axR_ab (j := jn (kdr S d) (i + 1)) (t := tI S (kdr S d)) a4 (fun _ => iy1) t0
    have e1 : iX (trD S num (kdr S d)) (i + 1) = axR (jn (kdr S d) (i + 1)) (tI S (kdr S d)) (xI S (kdr S d) (iX (kdr S d) (i + 1))) (iX (trD S num (kdr S d)) i) := by
      show (trX S (kdr S d) (i + 1)).toInt = _
      by_cases z : rl (kdr S d) (i + 1) = -1
      · rw [trX_u (by rw [v.2.2]; exact z), v.1, sAim_J g.r.1.1 (sgX_1 S).1, show jn (kdr S d) (i + 1) = false from decide_eq_false (fun t => t z)]
        exact J_ti (show Bd (xI S (kdr S d) (iX (kdr S d) (i + 1))) from ⟨by omega, by omega⟩)
      · rw [trX_j (by rw [v.2.2]; exact z) (Nat.succ_pos i), v.1, sAim_J g.r.1.1 (sgX_1 S).1, tP, show jn (kdr S d) (i + 1) = true from decide_eq_true z]
        rw [show trX S (kdr S d) (i + 1 - 1) = J (iX (trD S num (kdr S d)) i) from J_of _, sFol_J (ix1.w (by omega)) (a3.w (by omega)) t0 (by omega)]
        rw [show jn (kdr S d) (i + 1) = true from decide_eq_true z] at r1
        exact J_ti (show Bd (axR true (tI S (kdr S d)) (xI S (kdr S d) (iX (kdr S d) (i + 1))) (iX (trD S num (kdr S d)) i)) from ⟨by omega, by omega⟩)
    have e2 : iY (trD S num (kdr S d)) (i + 1) = axR (jn (kdr S d) (i + 1)) (tI S (kdr S d)) (yI S (kdr S d) (iY (kdr S d) (i + 1))) (iY (trD S num (kdr S d)) i) := by
      show (trY S (kdr S d) (i + 1)).toInt = _
      by_cases z : rl (kdr S d) (i + 1) = -1
      · rw [trY_u (by rw [v.2.2]; exact z), v.2.1, sAim_J g.r.1.1 (sgX_1 S).2, show jn (kdr S d) (i + 1) = false from decide_eq_false (fun t => t z)]
        exact J_ti (show Bd (yI S (kdr S d) (iY (kdr S d) (i + 1))) from ⟨by omega, by omega⟩)
      · rw [trY_j (by rw [v.2.2]; exact z) (Nat.succ_pos i), v.2.1, sAim_J g.r.1.1 (sgX_1 S).2, tP, show jn (kdr S d) (i + 1) = true from decide_eq_true z]
        rw [show trY S (kdr S d) (i + 1 - 1) = J (iY (trD S num (kdr S d)) i) from J_of _, sFol_J (iy1.w (by omega)) (a4.w (by omega)) t0 (by omega)]
        rw [show jn (kdr S d) (i + 1) = true from decide_eq_true z] at r2
        exact J_ti (show Bd (axR true (tI S (kdr S d)) (yI S (kdr S d) (iY (kdr S d) (i + 1))) (iY (trD S num (kdr S d)) i)) from ⟨by omega, by omega⟩)
    refine ⟨⟨?_, e1⟩, ?_, e2⟩
    · rw [e1]; exact r1
    · rw [e2]; exact r2
theorem tr_CI {f : Nat → Int64} {S : Dk} {d k : Nat} {num : Int32} (g : Rel f S) (hd : d < kn S) (hk : k ≤ 4) (c : CIv (kdr S d) k) : CIv (trD S num (kdr S d)) (k + 1) := by
  obtain ⟨p1, p2, p3, p4, p5, p6⟩ := tr_P (num := num) g hd
  obtain ⟨h1, h2⟩ := tr_H (num := num) g hd
  have x := tr_X (num := num) g hd hk c
  have eb : bn (k + 1) = 20 * bn k + 41000 * pw k := rfl
  have ep : pw (k + 1) = 20 * pw k := rfl
  have a1 := (xI_ab g hd c.2.2.1.1).1
  have a2 := (xI_ab g hd c.2.2.1.2).2
  have c1 := c.1
  have c2 := c.2.1
  have pb := pw_le (k := k) (by omega)
  refine ⟨?_, ?_, ?_, fun i hi => ?_, c.2.2.2.2.1, ?_, ?_⟩
  · rw [p1]; exact ⟨by omega, by omega⟩
  · rw [p2]; exact ⟨by omega, by omega⟩
  · rw [h1, h2]; exact ⟨a1.w (by omega), a2.w (by omega)⟩
  · have z := x i hi
    exact ⟨z.1.1, z.2.1⟩
  · show rsx (kdr S d) * sgX S = 1 ∨ rsx (kdr S d) * sgX S = -1
    rcases c.2.2.2.2.2.1 with z | z <;> rcases (sgX_1 S).1 with w | w <;> rw [z, w] <;> decide
  · show rsy (kdr S d) * sgY S = 1 ∨ rsy (kdr S d) * sgY S = -1
    rcases c.2.2.2.2.2.2 with z | z <;> rcases (sgX_1 S).2 with w | w <;> rw [z, w] <;> decide
/-! the reference's tracing -/
def PX (h : Nat → Int64) (c : Nat) (d : Dr) (i : Nat) : Prop := h (c + 0) = J (LN (iX d i) (iP d)) ∧ h (c + 1) = J (LD (iX d i) (iP d)) ∧ h (c + 2) = J (LN (iY d i) (iP d)) ∧ h (c + 3) = J (LD (iY d i) (iP d))
/-- the page below the new drawing is as it was -/
abbrev LoE (h f : Nat → Int64) (n : Nat) : Prop := ∀ c, c < 15 + 150 * n → c ≠ 14 → h c = f c
theorem mtP_is {f h : Nat → Int64} {S : Dk} {d k : Nat} (g : Rel f S) (hd : d < kn S) (hk : k < rn (kdr S d)) (lo : LoE h f (kn S)) : mtP h d k 0 = (J (LN (xI S (kdr S d) (iX (kdr S d) k)) (qI S (kdr S d))), J (LD (xI S (kdr S d) (iX (kdr S d) k)) (qI S (kdr S d)))) ∧ mtP h d k 1 = (J (LN (yI S (kdr S d) (iY (kdr S d) k)) (qI S (kdr S d))), J (LD (yI S (kdr S d) (iY (kdr S d) k)) (qI S (kdr S d)))) := by
  have n20 := g.n20 d hd
  have b := g.b d hd
  have p := ((g.d d hd).2 k hk).1
  have q := tr_P (num := 0) g hd
  have lc : ∀ t, t ≤ 6 → h (ceC d k + t) = f (ceC d k + t) := fun t ht => lo _ (by unfold ceC; omega) (by unfold ceC; omega)
  have h4 : h 4 = (ks S 0).toInt64 := (lo 4 (by omega) (by decide)).trans g.h.2.1.1
  have sg := sgf_is h4 g.r.2.1.1
  have e0 : h 0 = J (aI S) := (lo 0 (by omega) (by decide)).trans (g.h.1.1.trans (i32_J _))
  have e1 : h 1 = J (bI S) := (lo 1 (by omega) (by decide)).trans (g.h.1.2.1.trans (i32_J _))
  have e2 : h (2 + 0) = J (kf S 2).toInt := (lo 2 (by omega) (by decide)).trans (g.h.1.2.2.1.trans (i32_J _))
  have e3 : h (2 + 1) = J (kf S 3).toInt := (lo 3 (by omega) (by decide)).trans (g.h.1.2.2.2.trans (i32_J _))
  have a1 := (xI_ab g hd (b.2.2.2 k hk).1).1
  have a2 := (xI_ab g hd (b.2.2.2 k hk).2).2
  have rb := g.r.1.2.1
  have m1 := aim_ok (ax := 0) e0 e1 e2 (by rw [sg.1]; exact i32_J _) b.1.1 rb.1 (show Bd (xI S (kdr S d) (iX (kdr S d) k)) from ⟨by omega, by omega⟩) (show Bd (qI S (kdr S d)) from ⟨by omega, by omega⟩)
  have m2 := aim_ok (ax := 1) e0 e1 e3 (by rw [sg.2]; exact i32_J _) b.1.1 rb.1 (show Bd (yI S (kdr S d) (iY (kdr S d) k)) from ⟨by omega, by omega⟩) (show Bd (qI S (kdr S d)) from ⟨by omega, by omega⟩)
  refine ⟨?_, ?_⟩
  · unfold mtP
    rw [show h (ceC d k + 2 * 0) = _ from (lc 0 (by decide)).trans p.1, show h (ceC d k + 2 * 0 + 1) = _ from (lc 1 (by decide)).trans p.2.1, m1.1, m1.2]
  · unfold mtP
    rw [show h (ceC d k + 2 * 1) = _ from (lc 2 (by decide)).trans p.2.2.1, show h (ceC d k + 2 * 1 + 1) = _ from (lc 3 (by decide)).trans p.2.2.2, m2.1, m2.2]
theorem mtS_c {j : Bool} {h : Nat → Int64} {d n k ax : Nat} : mtS j h d n k ax (ceC n k + 2 * ax) = (mtQ j h d n k ax).1 ∧ mtS j h d n k ax (ceC n k + 2 * ax + 1) = (mtQ j h d n k ax).2 ∧ ∀ c, c ≠ ceC n k + 2 * ax → c ≠ ceC n k + 2 * ax + 1 → mtS j h d n k ax c = h c := by
  refine ⟨?_, ?_, fun c h1 h2 => ?_⟩
  · unfold mtS; rw [va_up_ne _ _ (by omega), va_up_self]
  · unfold mtS; rw [va_up_self]
  · unfold mtS; rw [va_up_ne _ _ h2, va_up_ne _ _ h1]
theorem tr_step {f h : Nat → Int64} {S : Dk} {d k kk : Nat} {num : Int32} (g : Rel f S) (hd : d < kn S) (hk : k < rn (kdr S d)) (hkk : kk ≤ 4) (c : CIv (kdr S d) kk) (lo : LoE h f (kn S)) (hprev : ¬ rl (kdr S d) k = -1 → PX h (ceC (kn S) (k - 1)) (trD S num (kdr S d)) (k - 1)) :
    (h (ceC d k + 4) = 1 → FoOK h d (kn S) k 0 ∧ FoOK (mtS true h d (kn S) k 0) d (kn S) k 1) ∧ PX (mtF h d (kn S) k) (ceC (kn S) k) (trD S num (kdr S d)) k ∧ mtF h d (kn S) k (ceC (kn S) k + 4) = (if rl (kdr S d) k = -1 then 0 else 1) ∧ ∀ q, (q < ceC (kn S) k ∨ ceC (kn S) k + 4 < q) → mtF h d (kn S) k q = h q := by
  have n20 := g.n20 d hd
  have n6 := g.n6
  have b := g.b d hd
  obtain ⟨p1, p2, p3, p4, -, -⟩ := tr_P (num := num) g hd
  have xk := tr_X (num := num) g hd hkk c k hk
  have fl : h (ceC d k + 4) = (if rl (kdr S d) k = -1 then 0 else 1) := (lo _ (by unfold ceC; omega) (by unfold ceC; omega)).trans ((g.d d hd).2 k hk).2.1
  have fl1 : h (ceC d k + 4) = 1 ↔ ¬ rl (kdr S d) k = -1 := by
    rw [fl]
    by_cases z : rl (kdr S d) k = -1
    · rw [if_pos z]; exact ⟨fun t => absurd t (by decide), fun t => absurd z t⟩
    · rw [if_neg z]; exact ⟨fun _ => z, fun _ => rfl⟩
  have r0 : ¬ rl (kdr S d) k = -1 → 1 ≤ k := fun z => by
    rcases Nat.eq_zero_or_pos k with t | t
    · subst t; exact absurd ((g.l d hd).2 hk) z
    · exact t
  have P := mtP_is g hd hk lo
  have rp := g.r.2.1.2.1
  have h5 : h 5 = J (ks S 1).toInt := (lo 5 (by omega) (by decide)).trans (g.h.2.1.2.1.trans (i32_J _))
  have a1 := (xI_ab g hd (b.2.2.2 k hk).1).1
  have a2 := (xI_ab g hd (b.2.2.2 k hk).2).2
  have bk := bn_le (k := kk + 1) (by omega)
  -- the page behind the first axis
  have lo1 : ∀ j, LoE (mtS j h d (kn S) k 0) f (kn S) := fun j q hq h14 => (mtS_lo hq).trans (lo q hq h14)
  have P1 := fun j => (mtP_is g hd hk (lo1 j)).2
  have h51 : ∀ j, mtS j h d (kn S) k 0 5 = J (ks S 1).toInt := fun j => (mtS_lo (by omega)).trans h5
  have oth : ∀ j q, q ≠ ceC (kn S) k + 2 * 0 → q ≠ ceC (kn S) k + 2 * 0 + 1 → mtS j h d (kn S) k 0 q = h q := fun j => mtS_c.2.2
  -- both axes where joined
  have J1 : ¬ rl (kdr S d) k = -1 → (FoOK h d (kn S) k 0 ∧ FoOK (mtS true h d (kn S) k 0) d (kn S) k 1) ∧ mtQ true h d (kn S) k 0 = (J (LN (iX (trD S num (kdr S d)) k) (qI S (kdr S d))), J (LD (iX (trD S num (kdr S d)) k) (qI S (kdr S d)))) ∧ mtQ true (mtS true h d (kn S) k 0) d (kn S) k 1 = (J (LN (iY (trD S num (kdr S d)) k) (qI S (kdr S d))), J (LD (iY (trD S num (kdr S d)) k) (qI S (kdr S d)))) := fun z => by
    have k1 := r0 z
    have pv := hprev z
    unfold PX at pv
    rw [p1] at pv
    have xp := tr_X (num := num) g hd hkk c (k - 1) (by omega)
    have ec : ceC (kn S) k - 7 = ceC (kn S) (k - 1) := by unfold ceC; omega
    have F0 := fol_ok (X := xI S (kdr S d) (iX (kdr S d) k)) (Y := iX (trD S num (kdr S d)) (k - 1)) h5 p3 rp.1 rp.2 (by omega) ⟨by omega, by omega⟩ (xp.1.1.w (by omega))
    have F1 := fol_ok (X := yI S (kdr S d) (iY (kdr S d) k)) (Y := iY (trD S num (kdr S d)) (k - 1)) (h51 true) p3 rp.1 rp.2 (by omega) ⟨by omega, by omega⟩ (xp.2.1.w (by omega))
    have q2 : mtS true h d (kn S) k 0 (ceC (kn S) (k - 1) + 2) = _ := (oth true _ (by unfold ceC; omega) (by unfold ceC; omega)).trans pv.2.2.1
    have q3 : mtS true h d (kn S) k 0 (ceC (kn S) (k - 1) + 3) = _ := (oth true _ (by unfold ceC; omega) (by unfold ceC; omega)).trans pv.2.2.2
    have ej : jn (kdr S d) k = true := decide_eq_true z
    refine ⟨⟨⟨?_, ?_⟩, ?_, ?_⟩, ?_, ?_⟩
    · rw [P.1, ec, show h (ceC (kn S) (k - 1) + 2 * 0 + 1) = _ from pv.2.1]; exact F0.2.1
    · rw [P.1]; exact F0.2.2
    · rw [P1, ec, show mtS true h d (kn S) k 0 (ceC (kn S) (k - 1) + 2 * 1 + 1) = _ from q3]; exact F1.2.1
    · rw [P1]; exact F1.2.2
    · unfold mtQ
      rw [if_pos rfl, P.1, ec, show h (ceC (kn S) (k - 1) + 2 * 0) = _ from pv.1, show h (ceC (kn S) (k - 1) + 2 * 0 + 1) = _ from pv.2.1, F0.1.1, F0.1.2, xk.1.2, ej]
    · unfold mtQ
      rw [if_pos rfl, P1, ec, show mtS true h d (kn S) k 0 (ceC (kn S) (k - 1) + 2 * 1) = _ from q2, show mtS true h d (kn S) k 0 (ceC (kn S) (k - 1) + 2 * 1 + 1) = _ from q3, F1.1.1, F1.1.2, xk.2.2, ej]
  have J0 : rl (kdr S d) k = -1 → mtQ false h d (kn S) k 0 = (J (LN (iX (trD S num (kdr S d)) k) (qI S (kdr S d))), J (LD (iX (trD S num (kdr S d)) k) (qI S (kdr S d)))) ∧ mtQ false (mtS false h d (kn S) k 0) d (kn S) k 1 = (J (LN (iY (trD S num (kdr S d)) k) (qI S (kdr S d))), J (LD (iY (trD S num (kdr S d)) k) (qI S (kdr S d)))) := fun z => by
    have ej : jn (kdr S d) k = false := decide_eq_false (fun t => t z)
    refine ⟨?_, ?_⟩
    · unfold mtQ
      rw [if_neg (by decide), P.1, xk.1.2, ej]
      rfl
    · unfold mtQ
      rw [if_neg (by decide), P1, xk.2.2, ej]
      rfl
  have bq : ∃ j : Bool, decide (h (ceC d k + 4) = 1) = j ∧ mtQ j h d (kn S) k 0 = (J (LN (iX (trD S num (kdr S d)) k) (qI S (kdr S d))), J (LD (iX (trD S num (kdr S d)) k) (qI S (kdr S d)))) ∧ mtQ j (mtS j h d (kn S) k 0) d (kn S) k 1 = (J (LN (iY (trD S num (kdr S d)) k) (qI S (kdr S d))), J (LD (iY (trD S num (kdr S d)) k) (qI S (kdr S d)))) := by
    by_cases z : rl (kdr S d) k = -1
    · exact ⟨false, decide_eq_false (fun t => (fl1.mp t) z), (J0 z).1, (J0 z).2⟩
    · exact ⟨true, decide_eq_true (fl1.mpr z), (J1 z).2.1, (J1 z).2.2⟩
  obtain ⟨j, ej, Q0, Q1⟩ := bq
  obtain ⟨s1, s2, s3⟩ := mtS_c (j := j) (h := h) (d := d) (n := kn S) (k := k) (ax := 0)
  obtain ⟨t1, t2, t3⟩ := mtS_c (j := j) (h := mtS j h d (kn S) k 0) (d := d) (n := kn S) (k := k) (ax := 1)
  have fin : ∀ q, q ≠ ceC (kn S) k + 4 → mtF h d (kn S) k q = mtS j (mtS j h d (kn S) k 0) d (kn S) k 1 q := fun q hq => by
    unfold mtF mtT
    rw [ej, va_up_ne _ _ hq]
  refine ⟨fun t => (J1 (fl1.mp t)).1, ⟨?_, ?_, ?_, ?_⟩, ?_, fun q hq => ?_⟩
  · rw [p1, fin _ (by omega), t3 _ (by omega) (by omega), show mtS j h d (kn S) k 0 (ceC (kn S) k + 0) = _ from s1, Q0]
  · rw [p1, fin _ (by omega), t3 _ (by omega) (by omega), show mtS j h d (kn S) k 0 (ceC (kn S) k + 1) = _ from s2, Q0]
  · rw [p1, fin _ (by omega), show mtS j (mtS j h d (kn S) k 0) d (kn S) k 1 (ceC (kn S) k + 2) = _ from t1, Q1]
  · rw [p1, fin _ (by omega), show mtS j (mtS j h d (kn S) k 0) d (kn S) k 1 (ceC (kn S) k + 3) = _ from t2, Q1]
  · unfold mtF mtT
    rw [va_up_self, ej, mtS_lo (by unfold ceC; omega), mtS_lo (by unfold ceC; omega), fl]
  · rw [fin q (by omega), t3 q (by omega) (by omega), s3 q (by omega) (by omega)]

