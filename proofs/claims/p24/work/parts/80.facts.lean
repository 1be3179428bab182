/-! what the questions answer -/
section FACTS
variable {f : Nat → Int64} {S : Dk}
def frm (S : Dk) (d : Nat) : Int32 := if ¬ rpa (kdr S d) = -1 then rpa (kdr S d) else -2000000004
theorem dg_w {d : Nat} {w : Int32} (zr : Rel f S) (hd : d < kn S) : cDrg S (nI d) w = cDr S (nI d) (kdr S d) w := by
  have n6 := zr.n6
  unfold cDrg
  rw [if_pos (jin n6 hd), nI_clamp (show d < 2 ^ 31 by omega)]
theorem dg_0 {d : Nat} (zr : Rel f S) (hd : d < kn S) : cDrg S (nI d) (nI 0) = nI (rn (kdr S d)) := (dg_w zr hd).trans cDr_0
theorem dg_1 {d : Nat} (zr : Rel f S) (hd : d < kn S) : cDrg S (nI d) (nI 1) = frm S d := (dg_w zr hd).trans cDr_1
theorem dg_2 {d : Nat} (zr : Rel f S) (hd : d < kn S) : cDrg S (nI d) (nI 2) = orgF S 6 (nI d) := (dg_w zr hd).trans cDr_2
theorem dg_3 {d : Nat} (zr : Rel f S) (hd : d < kn S) : cDrg S (nI d) (nI 3) = stpF S 6 0 (nI d) := (dg_w zr hd).trans cDr_3
theorem dg_4 {d : Nat} (zr : Rel f S) (hd : d < kn S) : cDrg S (nI d) (nI 4) = rsx (kdr S d) := (dg_w zr hd).trans cDr_4
theorem dg_5 {d : Nat} (zr : Rel f S) (hd : d < kn S) : cDrg S (nI d) (nI 5) = rsy (kdr S d) := (dg_w zr hd).trans cDr_5
theorem dg_6 {d : Nat} (zr : Rel f S) (hd : d < kn S) : cDrg S (nI d) (nI 6) = nI (cntW (kdr S d) (rn (kdr S d))) := (dg_w zr hd).trans cDr_6
theorem dg_7 {d : Nat} (zr : Rel f S) (hd : d < kn S) : cDrg S (nI d) (nI 7) = sumW (kdr S d) (rn (kdr S d)) := (dg_w zr hd).trans cDr_7
theorem dg_8 {d : Nat} (zr : Rel f S) (hd : d < kn S) : cDrg S (nI d) (nI 8) = maxW (kdr S d) (rn (kdr S d)) := (dg_w zr hd).trans cDr_8
theorem dg_9 {d : Nat} (zr : Rel f S) (hd : d < kn S) : cDrg S (nI d) (nI 9) = nI (offB S (kdr S d) (rn (kdr S d))) := (dg_w zr hd).trans cDr_9
/-- the width as a number -/
def wN (d : Dr) (i : Nat) : Nat := (vW d (nI i)).toNatClampNeg
def jI (d : Dr) (i : Nat) : Int64 := if rl d i = -1 then 0 else 1
def lenI (d : Dr) (i : Nat) : Int64 := if 0 < vW d (nI i) then (vLen d (nI i)).toInt64 else 0
theorem vW_rg {d : Dr} {i : Nat} (li : LIv d) (h : i < rn d) (h20 : rn d ≤ 20) : vW d (nI i) = nI (wN d i) ∧ wN d i ≤ 9 := by
  have v := vX_n h h20
  have l := li.1 i h
  have key : ∃ n, n ≤ 9 ∧ vW d (nI i) = nI n := by
    unfold vW
    rw [v.2.2]
    rcases l with z | z
    · rw [z]; exact ⟨0, by omega, rfl⟩
    · by_cases t : rl d i < 0
      · rw [if_pos t]; exact ⟨0, by omega, rfl⟩
      · rw [if_neg t]; exact rg_n z (by decide)
  obtain ⟨n, hn, e⟩ := key
  have : wN d i = n := by unfold wN; rw [e]; exact nI_clamp (by omega)
  rw [this]; exact ⟨e, hn⟩
theorem pi_w {d q : Nat} {w : Int32} (zr : Rel f S) (hd : d < kn S) (hp : q < rn (kdr S d)) : cPnI S (nI d) (nI q) w = cPI (kdr S d) (nI q) w := by
  have n6 := zr.n6
  have n20 := zr.n20 d hd
  unfold cPnI
  rw [nI_clamp (show d < 2 ^ 31 by omega), if_pos ⟨jin n6 hd, jin20 n20 hp⟩]
theorem lw_of {d q : Nat} (zr : Rel f S) (hd : d < kn S) (hp : q < rn (kdr S d)) : (lowL (rX (kdr S d) q) (rpt (kdr S d)) 0 = J (LN (iX (kdr S d) q) (iP (kdr S d))) ∧ lowL (rX (kdr S d) q) (rpt (kdr S d)) 1 = J (LD (iX (kdr S d) q) (iP (kdr S d)))) ∧ lowL (rY (kdr S d) q) (rpt (kdr S d)) 0 = J (LN (iY (kdr S d) q) (iP (kdr S d))) ∧ lowL (rY (kdr S d) q) (rpt (kdr S d)) 1 = J (LD (iY (kdr S d) q) (iP (kdr S d))) := by
  have b := zr.b d hd
  have bp : 0 < (rpt (kdr S d)).toInt ∧ (rpt (kdr S d)).toInt ≤ 3200000 := b.1
  have bi := b.2.2.2 q hp
  exact ⟨low_of (x := rX (kdr S d) q) (p := rpt (kdr S d)) (bi.1.w (by decide)) bp.1 (by omega), low_of (x := rY (kdr S d) q) (p := rpt (kdr S d)) (bi.2.w (by decide)) bp.1 (by omega)⟩
theorem pi_0 {d q : Nat} (zr : Rel f S) (hd : d < kn S) (hp : q < rn (kdr S d)) : cPnI S (nI d) (nI q) (nI 0) = J (LN (iX (kdr S d) q) (iP (kdr S d))) := by
  rw [pi_w zr hd hp, cPI_0, (vX_n hp (zr.n20 d hd)).1]; exact (lw_of zr hd hp).1.1
theorem pi_1 {d q : Nat} (zr : Rel f S) (hd : d < kn S) (hp : q < rn (kdr S d)) : cPnI S (nI d) (nI q) (nI 1) = J (LD (iX (kdr S d) q) (iP (kdr S d))) := by
  rw [pi_w zr hd hp, cPI_1, (vX_n hp (zr.n20 d hd)).1]; exact (lw_of zr hd hp).1.2
theorem pi_2 {d q : Nat} (zr : Rel f S) (hd : d < kn S) (hp : q < rn (kdr S d)) : cPnI S (nI d) (nI q) (nI 2) = J (LN (iY (kdr S d) q) (iP (kdr S d))) := by
  rw [pi_w zr hd hp, cPI_2, (vX_n hp (zr.n20 d hd)).2.1]; exact (lw_of zr hd hp).2.1
theorem pi_3 {d q : Nat} (zr : Rel f S) (hd : d < kn S) (hp : q < rn (kdr S d)) : cPnI S (nI d) (nI q) (nI 3) = J (LD (iY (kdr S d) q) (iP (kdr S d))) := by
  rw [pi_w zr hd hp, cPI_3, (vX_n hp (zr.n20 d hd)).2.1]; exact (lw_of zr hd hp).2.2
theorem pi_4 {d q : Nat} (zr : Rel f S) (hd : d < kn S) (hp : q < rn (kdr S d)) : cPnI S (nI d) (nI q) (nI 4) = jI (kdr S d) q := by
  rw [pi_w zr hd hp, cPI_4, (vX_n hp (zr.n20 d hd)).2.2]
  unfold jI
  by_cases e : rl (kdr S d) q = -1
  · rw [if_neg (fun z => z e), if_pos e]
  · rw [if_pos e, if_neg e]
theorem pi_5 {d q : Nat} (zr : Rel f S) (hd : d < kn S) (hp : q < rn (kdr S d)) : cPnI S (nI d) (nI q) (nI 5) = lN (wN (kdr S d) q) := by
  have w := vW_rg (zr.l d hd) hp (zr.n20 d hd)
  rw [pi_w zr hd hp, cPI_5, w.1, nI_l (by omega)]
theorem pi_6 {d q : Nat} (zr : Rel f S) (hd : d < kn S) (hp : q < rn (kdr S d)) : cPnI S (nI d) (nI q) (nI 6) = lenI (kdr S d) q := by
  rw [pi_w zr hd hp, cPI_6]; rfl
def zNu (d : Dr) : Nat := (LN (iS d) (iP d)).toNat
def zDe (d : Dr) : Nat := (LD (iS d) (iP d)).toNat
theorem ra_all {d : Nat} (zr : Rel f S) (hd : d < kn S) : ((zNu (kdr S d) : Int) = LN (iS (kdr S d)) (iP (kdr S d)) ∧ (zDe (kdr S d) : Int) = LD (iS (kdr S d)) (iP (kdr S d))) ∧ (0 < zNu (kdr S d) ∧ 0 < zDe (kdr S d)) ∧ (zNu (kdr S d) ≤ 3200000 ∧ zDe (kdr S d) ≤ 3200000) ∧ lowL (rsc (kdr S d)) (rpt (kdr S d)) 0 = lN (zNu (kdr S d)) ∧ lowL (rsc (kdr S d)) (rpt (kdr S d)) 1 = lN (zDe (kdr S d)) := by
  have b := zr.b d hd
  have bp : 0 < (rpt (kdr S d)).toInt ∧ (rpt (kdr S d)).toInt ≤ 3200000 := b.1
  have bs : 0 < (rsc (kdr S d)).toInt ∧ (rsc (kdr S d)).toInt ≤ 3200000 := b.2.1
  have l := low_of (x := rsc (kdr S d)) (p := rpt (kdr S d)) ⟨by omega, by omega⟩ bp.1 (by omega)
  have l1 := LN_pos (n := iS (kdr S d)) b.1.1 b.2.1.1
  have l3 := LN_le (n := iS (kdr S d)) b.1.1 (by omega)
  have l5 := LD_le (n := iS (kdr S d)) b.1.1
  have l6 := LD_pos (n := iS (kdr S d)) b.1.1
  have e1 : (zNu (kdr S d) : Int) = LN (iS (kdr S d)) (iP (kdr S d)) := Int.toNat_of_nonneg (by omega)
  have e2 : (zDe (kdr S d) : Int) = LD (iS (kdr S d)) (iP (kdr S d)) := Int.toNat_of_nonneg (by omega)
  refine ⟨⟨e1, e2⟩, ⟨by omega, by omega⟩, ⟨by omega, by omega⟩, l.1.trans ?_, l.2.trans ?_⟩
  · show J (LN (iS (kdr S d)) (iP (kdr S d))) = _
    rw [← e1, J_lN]
  · show J (LD (iS (kdr S d)) (iP (kdr S d))) = _
    rw [← e2, J_lN]
theorem ra_w {d : Nat} {w : Int32} (zr : Rel f S) (hd : d < kn S) (hw : okR w 0 1) : cRat S (nI d) w = (lowL (rsc (kdr S d)) (rpt (kdr S d)) w).toInt32 := by
  have n6 := zr.n6
  unfold cRat
  rw [if_pos ⟨jin n6 hd, hw⟩, nI_clamp (show d < 2 ^ 31 by omega)]
theorem ra_0 {d : Nat} (zr : Rel f S) (hd : d < kn S) : cRat S (nI d) (nI 0) = nI (zNu (kdr S d)) := by
  rw [ra_w zr hd (by decide)]
  exact (congrArg Int64.toInt32 (ra_all zr hd).2.2.2.1).trans (lN_i _)
theorem ra_1 {d : Nat} (zr : Rel f S) (hd : d < kn S) : cRat S (nI d) (nI 1) = nI (zDe (kdr S d)) := by
  rw [ra_w zr hd (by decide)]
  exact (congrArg Int64.toInt32 (ra_all zr hd).2.2.2.2).trans (lN_i _)
/-! lowest terms -/
theorem gcd_L {n d : Int} (h : 0 < d) : Int.gcd (LN n d) (LD n d) = 1 := by
  have hg : 0 < Int.gcd n d := Int.gcd_pos_of_ne_zero_right n (by omega)
  unfold LN LD
  exact Int.gcd_ediv_gcd_ediv_gcd hg
theorem fine_of {d : Nat} (zr : Rel f S) (tf : tooF (kdr S d) = false) (hd : d < kn S) : (zNu (kdr S d) ≤ 100000 ∧ zDe (kdr S d) ≤ 100000) ∧ ∀ q, q < rn (kdr S d) → LD (iX (kdr S d) q) (iP (kdr S d)) ≤ 100000 ∧ LD (iY (kdr S d) q) (iP (kdr S d)) ≤ 100000 := by
  have b := zr.b d hd
  have ra := ra_all zr hd
  have n20 := zr.n20 d hd
  unfold tooF at tf
  simp only [Bool.or_eq_false_iff, decide_eq_false_iff_not] at tf
  obtain ⟨t1, t2, t3⟩ := tf
  rw [ra.2.2.2.1] at t1
  rw [ra.2.2.2.2] at t2
  have u1 : ¬ 100000 < zNu (kdr S d) := fun z => t1 ((pk_lLT (a := 100000) (b := zNu (kdr S d)) (by decide) (by omega)).mpr z)
  have u2 : ¬ 100000 < zDe (kdr S d) := fun z => t2 ((pk_lLT (a := 100000) (b := zDe (kdr S d)) (by decide) (by omega)).mpr z)
  refine ⟨⟨by omega, by omega⟩, fun q hq => ?_⟩
  have t := tfn_at t3 hq
  have v := vX_n hq n20
  have l := lw_of zr hd hq
  rw [v.1, v.2.1, l.1.2, l.2.2] at t
  have p1 := LD_pos (n := iX (kdr S d) q) b.1.1
  have p2 := LD_pos (n := iY (kdr S d) q) b.1.1
  have p3 := LD_le (n := iX (kdr S d) q) b.1.1
  have p4 := LD_le (n := iY (kdr S d) q) b.1.1
  rw [J_c ⟨by omega, by omega⟩, J_c ⟨by omega, by omega⟩] at t
  omega
theorem LN_sg {n d : Int} (h : 0 < d) : (0 ≤ LN n d ↔ 0 ≤ n) ∧ ∀ w : Int, (LN n d ≤ LD n d * w ↔ n ≤ w * d) := by
  obtain ⟨m, m0, e1, e2, -⟩ := lq_m n h
  refine ⟨⟨fun z => ?_, fun z => ?_⟩, fun w => ⟨fun z => ?_, fun z => ?_⟩⟩
  · rw [e1]; exact Int.mul_nonneg z (by omega)
  · rw [e1] at z; exact Int.nonneg_of_mul_nonneg_left z m0
  · have := Int.mul_le_mul_of_nonneg_right z (show 0 ≤ m by omega)
    rw [← e1, Int.mul_right_comm, ← e2, Int.mul_comm] at this; exact this
  · have e3 : w * d = (LD n d * w) * m := by rw [Int.mul_right_comm, ← e2, Int.mul_comm]
    rw [e3] at z
    conv at z => lhs; rw [e1]
    exact Int.le_of_mul_le_mul_right z m0
/-- a point on the board, as the law asks it -/
theorem on_w {d q : Nat} (zr : Rel f S) (tf : tooF (kdr S d) = false) (hd : d < kn S) (hp : q < rn (kdr S d)) : onB S (kdr S d) (nI q) = true ↔ ¬ J (LN (iX (kdr S d) q) (iP (kdr S d))) < 0 ∧ ¬ J (LN (iY (kdr S d) q) (iP (kdr S d))) < 0 ∧ ¬ J (LD (iX (kdr S d) q) (iP (kdr S d))) * (ks S 2).toInt64 < J (LN (iX (kdr S d) q) (iP (kdr S d))) ∧ ¬ J (LD (iY (kdr S d) q) (iP (kdr S d))) * (ks S 3).toInt64 < J (LN (iY (kdr S d) q) (iP (kdr S d))) := by
  have b := zr.b d hd
  have bi := b.2.2.2 q hp
  have v := vX_n hp (zr.n20 d hd)
  have r2 := zr.r.2.1.2.2.1
  have r3 := zr.r.2.1.2.2.2.1
  have fi := (fine_of zr tf hd).2 q hp
  have p1 := LD_pos (n := iX (kdr S d) q) b.1.1
  have p2 := LD_pos (n := iY (kdr S d) q) b.1.1
  have m1 := Int.mul_le_mul r2.2 (Int.le_refl (iP (kdr S d))) (by omega) (by decide)
  have m2 := Int.mul_le_mul r3.2 (Int.le_refl (iP (kdr S d))) (by omega) (by decide)
  have m3 := Int.mul_nonneg (show 0 ≤ (ks S 2).toInt by omega) (show 0 ≤ iP (kdr S d) by omega)
  have m4 := Int.mul_nonneg (show 0 ≤ (ks S 3).toInt by omega) (show 0 ≤ iP (kdr S d) by omega)
  have n1 := Int.mul_le_mul fi.1 r2.2 (by omega) (by decide)
  have n2 := Int.mul_le_mul fi.2 r3.2 (by omega) (by decide)
  have n3 := Int.mul_nonneg (show 0 ≤ LD (iX (kdr S d) q) (iP (kdr S d)) by omega) (show 0 ≤ (ks S 2).toInt by omega)
  have n4 := Int.mul_nonneg (show 0 ≤ LD (iY (kdr S d) q) (iP (kdr S d)) by omega) (show 0 ≤ (ks S 3).toInt by omega)
  have bX : Bd (iX (kdr S d) q) := ⟨by have := bi.1.1; omega, by have := bi.1.2; omega⟩
  have bY : Bd (iY (kdr S d) q) := ⟨by have := bi.2.1; omega, by have := bi.2.2; omega⟩
  have bNX := Bd_N (d := iP (kdr S d)) b.1.1 bX
  have bNY := Bd_N (d := iP (kdr S d)) b.1.1 bY
  have z0 : Bd (0 : Int) := ⟨by decide, by decide⟩
  have lo : ∀ {x : Int64} {c : Int}, x = J c → Bd c → (x < 0 ↔ c < 0) := fun {x c} ex bc => by
    rw [ex]; exact J_lt (b := 0) bc z0
  have hi2 : ∀ {x : Int64} {c u : Int}, x = J c → Bd c → 0 ≤ u * iP (kdr S d) → u * iP (kdr S d) ≤ 1000 * iP (kdr S d) → (J u * rpt (kdr S d) < x ↔ u * iP (kdr S d) < c) := fun {x c u} ex bc u0 u1 => by
    rw [ex, show rpt (kdr S d) = J (iP (kdr S d)) from J_of _, J_mul, J_lt ⟨by omega, by omega⟩ bc]
  have e1 := lo (show rX (kdr S d) q = J (iX (kdr S d) q) from J_of _) bX
  have e2 := lo (show rY (kdr S d) q = J (iY (kdr S d) q) from J_of _) bY
  have e3 := hi2 (u := (ks S 2).toInt) (show rX (kdr S d) q = J (iX (kdr S d) q) from J_of _) bX m3 (by omega)
  have e4 := hi2 (u := (ks S 3).toInt) (show rY (kdr S d) q = J (iY (kdr S d) q) from J_of _) bY m4 (by omega)
  have w : onB S (kdr S d) (nI q) = true ↔ ((0 ≤ iX (kdr S d) q ∧ iX (kdr S d) q ≤ (ks S 2).toInt * iP (kdr S d)) ∧ 0 ≤ iY (kdr S d) q ∧ iY (kdr S d) q ≤ (ks S 3).toInt * iP (kdr S d)) := by
    unfold onB
    rw [v.1, v.2.1, i32_J (ks S 2), i32_J (ks S 3)]
    simp only [Bool.and_eq_true, decide_eq_true_iff]
    rw [e1, e2, e3, e4]
    omega
  rw [w, i32_J (ks S 2), i32_J (ks S 3), J_mul, J_mul, lo rfl bNX, lo rfl bNY, J_lt ⟨by omega, by omega⟩ bNX, J_lt ⟨by omega, by omega⟩ bNY]
  have s1 := LN_sg (n := iX (kdr S d) q) b.1.1
  have s2 := LN_sg (n := iY (kdr S d) q) b.1.1
  have s3 := s1.2 (ks S 2).toInt
  have s4 := s2.2 (ks S 3).toInt
  omega
/-- all that the law asks of a point -/
theorem sp_all {d q : Nat} (zr : Rel f S) (oi : OI (kdr S d)) (tf : tooF (kdr S d) = false) (hd : d < kn S) (hp : q < rn (kdr S d)) :
    ((¬ J (LD (iX (kdr S d) q) (iP (kdr S d))) < 1 ∧ ¬ J (LD (iY (kdr S d) q) (iP (kdr S d))) < 1) ∧ ¬ 100000 < J (LD (iX (kdr S d) q) (iP (kdr S d))) ∧ ¬ 100000 < J (LD (iY (kdr S d) q) (iP (kdr S d)))) ∧
    ((Bd (LN (iX (kdr S d) q) (iP (kdr S d))) ∧ Bd (LD (iX (kdr S d) q) (iP (kdr S d))) ∧ 0 ≤ LD (iX (kdr S d) q) (iP (kdr S d))) ∧ Bd (LN (iY (kdr S d) q) (iP (kdr S d))) ∧ Bd (LD (iY (kdr S d) q) (iP (kdr S d))) ∧ 0 ≤ LD (iY (kdr S d) q) (iP (kdr S d))) ∧
    (frm S d = -2000000004 → J (LD (iX (kdr S d) q) (iP (kdr S d))) = 1 ∧ J (LD (iY (kdr S d) q) (iP (kdr S d))) = 1 ∧ ¬ 1 < lN (wN (kdr S d) q) ∧ ¬ J (LN (iX (kdr S d) q) (iP (kdr S d))) < 0 ∧ ¬ 1000 < J (LN (iX (kdr S d) q) (iP (kdr S d)))) ∧
    (¬ lN (wN (kdr S d) q) < 0 ∧ ¬ 9 < lN (wN (kdr S d) q)) ∧
    (¬ lN (wN (kdr S d) q) ≤ 0 → ¬ jI (kdr S d) q = 0) ∧ (lN (wN (kdr S d) q) = 0 → lenI (kdr S d) q = 0) ∧ (q = 0 → jI (kdr S d) q = 0) := by
  have b := zr.b d hd
  have n6 := zr.n6
  have n20 := zr.n20 d hd
  have bi := b.2.2.2 q hp
  have fi := (fine_of zr tf hd).2 q hp
  have p1 := LD_pos (n := iX (kdr S d) q) b.1.1
  have p2 := LD_pos (n := iY (kdr S d) q) b.1.1
  have bX : Bd (iX (kdr S d) q) := ⟨by have := bi.1.1; omega, by have := bi.1.2; omega⟩
  have bY : Bd (iY (kdr S d) q) := ⟨by have := bi.2.1; omega, by have := bi.2.2; omega⟩
  have bNX := Bd_N (d := iP (kdr S d)) b.1.1 bX
  have bNY := Bd_N (d := iP (kdr S d)) b.1.1 bY
  have b1 : Bd (1 : Int) := ⟨by decide, by decide⟩
  have b0 : Bd (0 : Int) := ⟨by decide, by decide⟩
  have bm : Bd (1000 : Int) := ⟨by decide, by decide⟩
  have bDX : Bd (LD (iX (kdr S d) q) (iP (kdr S d))) := ⟨by omega, by omega⟩
  have bDY : Bd (LD (iY (kdr S d) q) (iP (kdr S d))) := ⟨by omega, by omega⟩
  have w := vW_rg (zr.l d hd) hp n20
  have v := vX_n hp n20
  refine ⟨⟨⟨fun z => ?_, fun z => ?_⟩, fun z => ?_, fun z => ?_⟩, ⟨⟨bNX, bDX, by omega⟩, bNY, bDY, by omega⟩, fun hf => ?_, ⟨fun z => ?_, fun z => ?_⟩, fun h1 h2 => ?_, fun h1 => ?_, fun h1 => ?_⟩
  · have := (J_lt (b := 1) bDX b1).mp z; omega
  · have := (J_lt (b := 1) bDY b1).mp z; omega
  · have := (J_c ⟨by omega, by omega⟩).mp z; omega
  · have := (J_c ⟨by omega, by omega⟩).mp z; omega
  · have ho : rpa (kdr S d) = -1 := by
      unfold frm at hf
      by_cases e : rpa (kdr S d) = -1
      · exact e
      · rw [if_pos e] at hf
        exfalso
        obtain ⟨K, hK⟩ := zr.K
        rcases (hK d hd).2.1 with ⟨z, -⟩ | ⟨u, hu, z, -⟩
        · exact e z
        · rw [z] at hf
          have t2 := congrArg Int32.toInt hf
          rw [nI_toInt (by omega)] at t2
          have : (-2000000004 : Int32).toInt = -2000000004 := by decide
          omega
    obtain ⟨c0, ep, -⟩ := org_is zr hd ho
    obtain ⟨-, -, o3⟩ := oi ho
    have o := o3 q hp
    have ln : ∀ x : Int, LN x (iP (kdr S d)) = x ∧ LD x (iP (kdr S d)) = 1 := fun x => by rw [ep]; exact LN_1 x
    have cb := (c0.2.2.2.1 q hp).1
    rw [(ln _).1, (ln _).2, (ln _).2]
    refine ⟨rfl, rfl, fun z => ?_, fun z => ?_, fun z => ?_⟩
    · have := (pk_lLT (a := 1) (b := wN (kdr S d) q) (by decide) (by omega)).mp z
      have e : vW (kdr S d) (nI q) = nI 0 ∨ vW (kdr S d) (nI q) = nI 1 := by
        unfold vW; rw [v.2.2]
        rcases o.2 with t | t <;> rw [t]
        · exact Or.inl rfl
        · exact Or.inr rfl
      rw [w.1, nI_eq (by omega) (by decide), nI_eq (by omega) (by decide)] at e
      omega
    · have := (J_lt (b := 0) bX b0).mp z; omega
    · have := (J_lt (a := 1000) bm bX).mp z
      have : iX (kdr S d) q ≤ 1000 := cb.2
      omega
  · exact absurd ((pk_lLT (a := wN (kdr S d) q) (b := 0) (by omega) (by decide)).mp z) (Nat.not_lt_zero _)
  · have := (pk_lLT (a := 9) (b := wN (kdr S d) q) (by decide) (by omega)).mp z; omega
  · unfold jI at h2
    by_cases e : rl (kdr S d) q = -1
    · apply h1
      have : vW (kdr S d) (nI q) = nI 0 := by unfold vW; rw [v.2.2, e]; rfl
      rw [w.1, nI_eq (by omega) (by decide)] at this
      rw [this]; exact Int64.le_refl _
    · rw [if_neg e] at h2; exact absurd h2 (by decide)
  · have e0 := (pk_lEQ (a := wN (kdr S d) q) (b := 0) (by omega) (by decide)).mp h1
    unfold lenI
    rw [w.1, e0]; rfl
  · subst h1
    unfold jI
    rw [if_pos ((zr.l d hd).2 hp)]
theorem w_cases {d q : Nat} (zr : Rel f S) (hd : d < kn S) (hp : q < rn (kdr S d)) : (lN (wN (kdr S d) q) ≤ 0 → ¬ 0 < vW (kdr S d) (nI q)) ∧ (¬ lN (wN (kdr S d) q) ≤ 0 → 0 < vW (kdr S d) (nI q)) ∧ sumW (kdr S d) q + (lenI (kdr S d) q).toInt32 = sumW (kdr S d) (q + 1) ∧ (lN (wN (kdr S d) q) ≤ (maxW (kdr S d) q).toInt64 → maxW (kdr S d) q = maxW (kdr S d) (q + 1)) ∧ (¬ lN (wN (kdr S d) q) ≤ (maxW (kdr S d) q).toInt64 → (lN (wN (kdr S d) q)).toInt32 = maxW (kdr S d) (q + 1)) := by
  have w := vW_rg (zr.l d hd) hp (zr.n20 d hd)
  have k1 : lN (wN (kdr S d) q) ≤ 0 ↔ wN (kdr S d) q ≤ 0 := pk_lLE (a := wN (kdr S d) q) (b := 0) (by omega) (by decide)
  have k2 : 0 < vW (kdr S d) (nI q) ↔ 0 < wN (kdr S d) q := by rw [w.1]; exact nI_ltI (a := 0) (by decide) (by omega)
  have k3 : lN (wN (kdr S d) q) ≤ (maxW (kdr S d) q).toInt64 ↔ ¬ maxW (kdr S d) q < vW (kdr S d) (nI q) := by
    rw [w.1, ← nI_l (show wN (kdr S d) q < 2 ^ 31 by omega), Int64.le_iff_toInt_le, Int32.toInt_toInt64, Int32.toInt_toInt64, Int32.lt_iff_toInt_lt]
    omega
  refine ⟨fun h => ?_, fun h => ?_, ?_, fun h => ?_, fun h => ?_⟩
  · rw [k2]; have := k1.mp h; omega
  · rw [k2]
    rcases Nat.eq_zero_or_pos (wN (kdr S d) q) with t | t
    · exact absurd (k1.mpr (by omega)) h
    · exact t
  · unfold lenI
    by_cases e : 0 < vW (kdr S d) (nI q)
    · rw [if_pos e, (cnt_1 e).2, Int32.toInt32_toInt64]
    · rw [if_neg e, (cnt_0 e).2]
      exact Int32.add_zero _
  · show _ = (if maxW (kdr S d) q < vW (kdr S d) (nI q) then _ else _)
    rw [if_neg (k3.mp h)]
  · show _ = (if maxW (kdr S d) q < vW (kdr S d) (nI q) then _ else _)
    rw [if_pos (Classical.not_not.mp (fun z => h (k3.mpr z))), lN_i, w.1]
theorem offB_s {d : Dr} {q : Nat} : offB S d (q + 1) = offB S d q + (if onB S d (nI q) = true then 0 else 1) := rfl
theorem alk_self (d : Dr) : ∀ n, alkF d d n = n
  | 0 => rfl
  | n + 1 => by
    unfold alkF
    rw [alk_self d n, if_pos ⟨rfl, rfl⟩]
theorem al_d {d : Nat} (zr : Rel f S) (hd : d < kn S) : cAlk S (nI d) (nI d) = nI (rn (kdr S d)) := by
  have n6 := zr.n6
  unfold cAlk
  rw [nI_clamp (show d < 2 ^ 31 by omega), if_pos ⟨jin n6 hd, jin n6 hd⟩, Nat.min_self, alk_self]
theorem af_d {d : Nat} (zr : Rel f S) (hd : d < kn S) : cArF S (nI d) (nI d) = 101 := by
  have n6 := zr.n6
  have b := zr.b d hd
  have q3 : 0 < iS (kdr S d) * iP (kdr S d) := Int.mul_pos b.2.1.1 b.1.1
  have q4 : iS (kdr S d) * iP (kdr S d) ≤ 10240000000000 := by have := Int.mul_le_mul b.2.1.2 b.1.2 (by omega) (by omega); omega
  have eN : afN (kdr S d) (kdr S d) = J (iS (kdr S d) * iP (kdr S d)) := by
    unfold afN
    rw [show rsc (kdr S d) = J (iS (kdr S d)) from J_of _, show rpt (kdr S d) = J (iP (kdr S d)) from J_of _, J_mul]
  have eD : afD (kdr S d) (kdr S d) = J (iS (kdr S d) * iP (kdr S d)) := by
    unfold afD
    rw [show rsc (kdr S d) = J (iS (kdr S d)) from J_of _, show rpt (kdr S d) = J (iP (kdr S d)) from J_of _, J_mul, Int.mul_comm]
  have lw := low_J (n := iS (kdr S d) * iP (kdr S d)) (d := iS (kdr S d) * iP (kdr S d)) ⟨by omega, by omega⟩ q3 (by omega)
  have l1 : LN (iS (kdr S d) * iP (kdr S d)) (iS (kdr S d) * iP (kdr S d)) = 1 := by
    unfold LN; rw [Int.gcd_self, Int.natAbs_of_nonneg (by omega)]; exact Int.ediv_self (by omega)
  have l2 : LD (iS (kdr S d) * iP (kdr S d)) (iS (kdr S d) * iP (kdr S d)) = 1 := l1
  unfold cArF
  rw [nI_clamp (show d < 2 ^ 31 by omega), if_pos ⟨jin n6 hd, jin n6 hd⟩, eN, eD, lw.1, lw.2, l1, l2]
  rfl
/-- a ratio, as the law asks it -/
theorem sr_all {d : Nat} (zr : Rel f S) (tf : tooF (kdr S d) = false) (hd : d < kn S) : ((nI (zNu (kdr S d))).toInt64 = J (LN (iS (kdr S d)) (iP (kdr S d))) ∧ (nI (zDe (kdr S d))).toInt64 = J (LD (iS (kdr S d)) (iP (kdr S d)))) ∧ (Bd (LN (iS (kdr S d)) (iP (kdr S d))) ∧ Bd (LD (iS (kdr S d)) (iP (kdr S d))) ∧ 0 ≤ LD (iS (kdr S d)) (iP (kdr S d))) ∧ J (Int.gcd (LN (iS (kdr S d)) (iP (kdr S d))) (LD (iS (kdr S d)) (iP (kdr S d))) : Int) = 1 ∧ (¬ nI (zNu (kdr S d)) < 1 ∧ ¬ 100000 < nI (zNu (kdr S d))) ∧ ¬ nI (zDe (kdr S d)) < 1 ∧ nI (zDe (kdr S d)) ≤ 100000 := by
  have ra := ra_all zr hd
  have b := zr.b d hd
  have fi := (fine_of zr tf hd).1
  refine ⟨⟨?_, ?_⟩, ⟨⟨by omega, by omega⟩, ⟨by omega, by omega⟩, by omega⟩, by rw [gcd_L b.1.1]; rfl, ⟨fun z => ?_, fun z => ?_⟩, fun z => ?_, ?_⟩
  · rw [nI_l (by omega), ← ra.1.1, J_lN]
  · rw [nI_l (by omega), ← ra.1.2, J_lN]
  · have := (nI_ltI (a := zNu (kdr S d)) (b := 1) (by omega) (by decide)).mp z; omega
  · have := (nI_ltI (a := 100000) (b := zNu (kdr S d)) (by decide) (by omega)).mp z; omega
  · have := (nI_ltI (a := zDe (kdr S d)) (b := 1) (by omega) (by decide)).mp z; omega
  · exact (nI_leI (a := zDe (kdr S d)) (b := 100000) (by omega) (by decide)).mpr fi.2
/-- an original's chain, and a copy's -/
theorem so_all {d : Nat} (zr : Rel f S) (oi : OI (kdr S d)) (hd : d < kn S) (hf : frm S d = -2000000004) : rpa (kdr S d) = -1 ∧ orgF S 6 (nI d) = nI d ∧ stpF S 6 0 (nI d) = 0 ∧ (nI (zNu (kdr S d)) = 1 ∧ nI (zDe (kdr S d)) = 1) ∧ rsx (kdr S d) = 1 ∧ rsy (kdr S d) = 1 := by
  have n6 := zr.n6
  have ho : rpa (kdr S d) = -1 := by
    unfold frm at hf
    by_cases e : rpa (kdr S d) = -1
    · exact e
    · rw [if_pos e] at hf
      exfalso
      obtain ⟨K, hK⟩ := zr.K
      rcases (hK d hd).2.1 with ⟨z, -⟩ | ⟨u, hu, z, -⟩
      · exact e z
      · rw [z] at hf
        have t2 := congrArg Int32.toInt hf
        rw [nI_toInt (by omega)] at t2
        have : (-2000000004 : Int32).toInt = -2000000004 := by decide
        omega
  obtain ⟨-, ep, es⟩ := org_is zr hd ho
  have o := (oi ho).1
  refine ⟨ho, orgF_org ho (by omega), stpF_org ho (by omega), ⟨?_, ?_⟩, o.1, o.2⟩
  · have : zNu (kdr S d) = 1 := by unfold zNu; rw [es, ep]; rfl
    rw [this]; rfl
  · have : zDe (kdr S d) = 1 := by unfold zDe; rw [es, ep]; rfl
    rw [this]; rfl
theorem sc_all {d : Nat} (zr : Rel f S) (hd : d < kn S) (hf : ¬ frm S d = -2000000004) : ∃ q, q < d ∧ frm S d = nI q ∧ orgF S 6 (nI d) = orgF S 6 (nI q) ∧ stpF S 6 0 (nI d) = stpF S 6 0 (nI q) + 1 ∧ rn (kdr S d) = rn (kdr S q) := by
  have n6 := zr.n6
  have ho : ¬ rpa (kdr S d) = -1 := fun z => hf (by unfold frm; rw [if_neg (fun y => y z)])
  obtain ⟨K, hK⟩ := zr.K
  rcases (hK d hd).2.1 with ⟨z, -⟩ | ⟨q, hq, z, -, er⟩
  · exact absurd z ho
  · have e1 : frm S d = nI q := by unfold frm; rw [if_pos ho, z]
    have c1 := rel_chain zr 6 q (by omega) (by omega) 5 (by omega)
    have c2 := rel_chain zr 6 q (by omega) (by omega) 6 (by omega)
    have o1 : orgF S 6 (nI d) = orgF S 5 (rpa (kdr S d)) := orgF_cp n6 hd ho
    have s1 : stpF S 6 0 (nI d) = stpF S 5 1 (rpa (kdr S d)) := stpF_cp n6 hd ho
    refine ⟨q, hq, e1, ?_, ?_, er⟩
    · rw [o1, z, c1.1, c2.1]
    · rw [s1, z, c1.2, c2.2, nI_1]
      congr 1; omega
theorem worn_eq (zr : Rel f S) : sWorn S = 1 + kf S 5 / ks S 4 ∧ ¬ ks S 4 = 0 := by
  have r5 := zr.r.2.2.1
  have r8 := zr.r.2.1.2.2.2.2
  obtain ⟨u, hu, eu⟩ := rg_n (N := 100000) r5 (by decide)
  obtain ⟨v, hv, ev⟩ := rg_n (x := ks S 4) (N := 1000) ⟨by have := r8.1; omega, r8.2⟩ (by decide)
  have hv0 : 0 < v := by
    have := r8.1
    rw [ev, nI_toInt (by omega)] at this; omega
  constructor
  · unfold sWorn quo
    rw [eu, ev, pk_div (by omega) hv0 (by omega), nI_l (by omega), nI_l (by omega), if_neg (fun z => by have := (pk_lLE (a := v) (b := 0) (by omega) (by decide)).mp z; omega), pk_lDiv (by omega) hv0 (by omega), lN_i]
  · rw [ev]
    exact fun z => by have := (nI_eq (a := v) (b := 0) (by omega) (by decide)).mp z; omega
theorem st_all {k : Nat} (zg : GI S k) (hk : k ≤ 100) : (¬ kf S 6 < 0 ∧ ¬ 10 < kf S 6) ∧ ¬ kf S 8 < 0 ∧ ¬ kf S 9 < 0 := by
  obtain ⟨⟨f, r⟩, -, ⟨z, hz, ez⟩, y, hy, ey⟩ := zg
  have r6 := r.r.2.2.2
  refine ⟨⟨fun t => ?_, fun t => ?_⟩, by rw [ez]; exact nI_pos (by omega), by rw [ey]; exact nI_pos (by omega)⟩
  · have := Int32.lt_iff_toInt_lt.mp t
    have e : (0 : Int32).toInt = 0 := by decide
    have := r6.1; omega
  · have := Int32.lt_iff_toInt_lt.mp t
    have e : (10 : Int32).toInt = 10 := by decide
    have := r6.2; omega
end FACTS
