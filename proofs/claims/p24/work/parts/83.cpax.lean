def farE (pv a b s X P X' P' : Int) : Int := LN X' P' * (LD X P * b / (Int.gcd (LD X' P') (LD X P * b) : Int)) - axX pv (LD X P) b s a (LN X P) * (LD X' P' / (Int.gcd (LD X' P') (LD X P * b) : Int))
def farP (pl b X P X' P' : Int) : Int := pl * (LD X' P' / (Int.gcd (LD X' P') (LD X P * b) : Int)) * (LD X P * b)
def AxF (pv a b s pl X P X' P' : Int) (j0 : Prop) : Prop := (Bd (LD X' P') ∧ Bd (LD X P * b) ∧ 0 ≤ LD X P * b) ∧ (0 ≤ LD X' P' ∧ 0 < (Int.gcd (LD X' P') (LD X P * b) : Int) ∧ Bd (Int.gcd (LD X' P') (LD X P * b) : Int)) ∧ (j0 → J (farE pv a b s X P X' P') = 0) ∧ ¬ J (farP pl b X P X' P') < J (farE pv a b s X P X' P') ∧ -J (farE pv a b s X P X' P') ≤ J (farP pl b X P X' P')
theorem ax_all {pv a b s pl X P X' P' : Int} {j0 : Prop} (hP : 0 < P) (eP : P' = P * b) (b1 : 1 ≤ b) (b20 : b ≤ 20) (p0 : 0 ≤ pl) (p50 : pl ≤ 50) (l1 : LD X P ≤ 100000) (l2 : LD X' P' ≤ 100000) (h1 : X' - axX pv P b s a X ≤ pl * P') (h2 : axX pv P b s a X - X' ≤ pl * P') (hj : j0 → X' = axX pv P b s a X) : AxF pv a b s pl X P X' P' j0 := by
  subst eP
  obtain ⟨⟨c0, d0, y0⟩, k1, k2, k3⟩ := far_ok (pv := pv) (s := s) (a := a) (X' := X') hP (show 0 < b by omega) rfl rfl rfl rfl p0 h1 h2
  have m1 := LD_pos (n := X) hP
  have yb : LD X P * b ≤ 2000000 := by have := Int.mul_le_mul l1 b20 (by omega) (by omega); omega
  have gl : (Int.gcd (LD X' (P * b)) (LD X P * b) : Int) ≤ LD X' (P * b) := Int.le_of_dvd d0 (Int.gcd_dvd_left _ _)
  have q1 : LD X' (P * b) / (Int.gcd (LD X' (P * b)) (LD X P * b) : Int) ≤ 100000 := Int.le_trans (Int.ediv_le_self _ (by omega)) l2
  have q0 : 0 ≤ LD X' (P * b) / (Int.gcd (LD X' (P * b)) (LD X P * b) : Int) := Int.ediv_nonneg (by omega) (by omega)
  have t1 : pl * (LD X' (P * b) / (Int.gcd (LD X' (P * b)) (LD X P * b) : Int)) ≤ 50 * 100000 := Int.mul_le_mul p50 q1 q0 (by omega)
  have t0 := Int.mul_nonneg p0 q0
  have u1 : farP pl b X P X' (P * b) ≤ 50 * 100000 * 2000000 := Int.mul_le_mul t1 yb (by omega) (by omega)
  have u0 : 0 ≤ farP pl b X P X' (P * b) := Int.mul_nonneg t0 (by omega)
  have k2' : farE pv a b s X P X' (P * b) ≤ farP pl b X P X' (P * b) := k2
  have k3' : -farE pv a b s X P X' (P * b) ≤ farP pl b X P X' (P * b) := k3
  have bE : Bd (farE pv a b s X P X' (P * b)) := ⟨by omega, by omega⟩
  have bN : Bd (-farE pv a b s X P X' (P * b)) := ⟨by omega, by omega⟩
  have bP : Bd (farP pl b X P X' (P * b)) := ⟨by omega, by omega⟩
  refine ⟨⟨⟨by omega, by omega⟩, ⟨by omega, by omega⟩, by omega⟩, ⟨by omega, c0, ⟨by omega, by omega⟩⟩, fun e => ?_, fun z => ?_, ?_⟩
  · rw [show farE pv a b s X P X' (P * b) = 0 from k1 (hj e)]; rfl
  · have := (J_lt bP bE).mp z; omega
  · rw [J_neg]; exact (J_le bN bP).mpr k3'
/-- the machine's words for it -/
theorem farE_J {pv a b s pl X P X' P' : Int} {j0 : Prop} (h : AxF pv a b s pl X P X' P' j0) : J (LN X' P') * (J (LD X P * b) / J (Int.gcd (LD X' P') (LD X P * b) : Int)) - J (axX pv (LD X P) b s a (LN X P)) * (J (LD X' P') / J (Int.gcd (LD X' P') (LD X P * b) : Int)) = J (farE pv a b s X P X' P') := by
  obtain ⟨⟨h1, h2, h3⟩, ⟨h4, h5, h6⟩, -⟩ := h
  rw [J_div h2 h6 h5 (Or.inl h3), J_div h1 h6 h5 (Or.inl h4), J_mul, J_mul, J_sub]
  rfl
theorem farP_J {pv a b s pl X P X' P' : Int} {j0 : Prop} (h : AxF pv a b s pl X P X' P' j0) : J pl * (J (LD X' P') / J (Int.gcd (LD X' P') (LD X P * b) : Int)) * J (LD X P * b) = J (farP pl b X P X' P') := by
  obtain ⟨⟨h1, h2, h3⟩, ⟨h4, h5, h6⟩, -⟩ := h
  rw [J_div h1 h6 h5 (Or.inl h4), J_mul, J_mul]
  rfl
theorem AxF.ne {pv a b s pl X P X' P' : Int} {j0 : Prop} (h : AxF pv a b s pl X P X' P' j0) : ¬ J (Int.gcd (LD X' P') (LD X P * b) : Int) = 0 := fun z => by
  obtain ⟨-, ⟨-, h5, h6⟩, -⟩ := h
  have := (J_eq (b := 0) h6 ⟨by decide, by decide⟩).mp z
  omega
/-- a copy, point by point -/
theorem cp_XY {f f1 : Nat → Int64} {S S1 : Dk} {T' : Dr} {d kk q : Nat} (zr : Rel f S) (tf : tooF (kdr S d) = false) (hd : d < kn S) (cf : CpF S S1 d kk T') (zr1 : Rel f1 S1) (tf1 : tooF T' = false) (hq : q < rn (kdr S d)) : AxF (kf S 2).toInt (aI S) (bI S) (sgX S).toInt (ks S 1).toInt (iX (kdr S d) q) (iP (kdr S d)) (iX T' q) (iP T') (jI T' q = 0) ∧ AxF (kf S 3).toInt (aI S) (bI S) (sgY S).toInt (ks S 1).toInt (iY (kdr S d) q) (iP (kdr S d)) (iY T' q) (iP T') (jI T' q = 0) := by
  obtain ⟨⟨h6, n1, k1⟩, k2, ⟨d0, d1⟩, sm, lj, -, -⟩ := cf
  obtain ⟨K, hK⟩ := zr.K
  have hkk : K d ≤ 4 := by have := (hK d hd).2.2; omega
  have tx := tr_X (num := nI d) zr hd hkk (hK d hd).1 q hq
  have tp := tr_P (num := nI d) zr hd
  have tt := tr_t zr hd
  have b := zr.b d hd
  have ra := zr.r.1.2.1
  have rp := zr.r.2.1.2.1
  have hq1 : q < rn T' := by rw [sm.2.2.1]; exact hq
  have ht : T' = kdr S1 (kn S) := d1.symm
  have hn1 : kn S < kn S1 := by omega
  have fi := (fine_of zr tf hd).2 q hq
  have fi1 := (fine_of zr1 (by rw [← ht]; exact tf1) hn1).2 q (by rw [← ht]; exact hq1)
  rw [← ht] at fi1
  have eP : iP T' = iP (kdr S d) * bI S := by
    show (rpt T').toInt = _
    rw [sm.1.2.2.1]; exact tp.1
  have eX : iX T' q = iX (trD S (nI d) (kdr S d)) q := by show (rX T' q).toInt = _; rw [sm.2.2.2.1]
  have eY : iY T' q = iY (trD S (nI d) (kdr S d)) q := by show (rY T' q).toInt = _; rw [sm.2.2.2.2]
  have jz : jI T' q = 0 → jn (kdr S d) q = false := fun z => by
    have e : rl T' q = -1 := by
      unfold jI at z
      by_cases y : rl T' q = -1
      · exact y
      · rw [if_neg y] at z; exact absurd z (by decide)
    exact decide_eq_false (fun y => y ((lj q hq).mp e))
  have et : tI S (kdr S d) = (ks S 1).toInt * iP T' := by rw [eP]
  have ax := ax_b (j := jn (kdr S d) q) (t := tI S (kdr S d)) (X := xI S (kdr S d) (iX (kdr S d) q)) (Y := iX (trD S (nI d) (kdr S d)) (q - 1)) tt.2.1
  have ay := ax_b (j := jn (kdr S d) q) (t := tI S (kdr S d)) (X := yI S (kdr S d) (iY (kdr S d) q)) (Y := iY (trD S (nI d) (kdr S d)) (q - 1)) tt.2.1
  rw [← tx.1.2, ← eX, et] at ax
  rw [← tx.2.2, ← eY, et] at ay
  exact ⟨ax_all b.1.1 eP ra.1 ra.2 rp.1 rp.2 fi.1 fi1.1 ax.2.1 ax.2.2 (fun z => ax.1 (jz z)), ax_all b.1.1 eP ra.1 ra.2 rp.1 rp.2 fi.2 fi1.2 ay.2.1 ay.2.2 (fun z => ay.1 (jz z))⟩
theorem aimX_J {f : Nat → Int64} {S : Dk} {m x : Int} (zr : Rel f S) (bm : Bd m) (bx : Bd x) : (kf S 2).toInt64 * J m * (kf S 1).toInt64 + (sgX S * kf S 0).toInt64 * (J x - (kf S 2).toInt64 * J m) = J (axX (kf S 2).toInt m (bI S) (sgX S).toInt (aI S) x) := by
  have z := sAim_J (S := S) (x := J x) (p := J m) (pv := kf S 2) (sg := sgX S) zr.r.1.1 (sgX_1 S).1
  rw [J_ti bm, J_ti bx] at z
  exact z
theorem aimY_J {f : Nat → Int64} {S : Dk} {m x : Int} (zr : Rel f S) (bm : Bd m) (bx : Bd x) : (kf S 3).toInt64 * J m * (kf S 1).toInt64 + (sgY S * kf S 0).toInt64 * (J x - (kf S 3).toInt64 * J m) = J (axX (kf S 3).toInt m (bI S) (sgY S).toInt (aI S) x) := by
  have z := sAim_J (S := S) (x := J x) (p := J m) (pv := kf S 3) (sg := sgY S) zr.r.1.1 (sgX_1 S).2
  rw [J_ti bm, J_ti bx] at z
  exact z
/-! questions of a state whose drawings have other names -/
section OTHER
variable {f : Nat → Int64} {S : Dk} {D : Dr} {d : Nat}
theorem dj_0 (zr : Rel f S) (hd : d < kn S) (kd : kdr S d = D) : cDrg S (nI d) (nI 0) = nI (rn D) := by rw [← kd]; exact dg_0 zr hd
theorem dj_1 (zr : Rel f S) (hd : d < kn S) (kd : kdr S d = D) : cDrg S (nI d) (nI 1) = (if ¬ rpa D = -1 then rpa D else -2000000004) := by rw [← kd]; exact dg_1 zr hd
theorem dj_4 (zr : Rel f S) (hd : d < kn S) (kd : kdr S d = D) : cDrg S (nI d) (nI 4) = rsx D := by rw [← kd]; exact dg_4 zr hd
theorem dj_5 (zr : Rel f S) (hd : d < kn S) (kd : kdr S d = D) : cDrg S (nI d) (nI 5) = rsy D := by rw [← kd]; exact dg_5 zr hd
theorem dj_6 (zr : Rel f S) (hd : d < kn S) (kd : kdr S d = D) : cDrg S (nI d) (nI 6) = nI (cntW D (rn D)) := by rw [← kd]; exact dg_6 zr hd
theorem dj_7 (zr : Rel f S) (hd : d < kn S) (kd : kdr S d = D) : cDrg S (nI d) (nI 7) = sumW D (rn D) := by rw [← kd]; exact dg_7 zr hd
theorem pj_0 {q : Nat} (zr : Rel f S) (hd : d < kn S) (kd : kdr S d = D) (hp : q < rn D) : cPnI S (nI d) (nI q) (nI 0) = J (LN (iX D q) (iP D)) := by subst kd; exact pi_0 zr hd hp
theorem pj_1 {q : Nat} (zr : Rel f S) (hd : d < kn S) (kd : kdr S d = D) (hp : q < rn D) : cPnI S (nI d) (nI q) (nI 1) = J (LD (iX D q) (iP D)) := by subst kd; exact pi_1 zr hd hp
theorem pj_2 {q : Nat} (zr : Rel f S) (hd : d < kn S) (kd : kdr S d = D) (hp : q < rn D) : cPnI S (nI d) (nI q) (nI 2) = J (LN (iY D q) (iP D)) := by subst kd; exact pi_2 zr hd hp
theorem pj_3 {q : Nat} (zr : Rel f S) (hd : d < kn S) (kd : kdr S d = D) (hp : q < rn D) : cPnI S (nI d) (nI q) (nI 3) = J (LD (iY D q) (iP D)) := by subst kd; exact pi_3 zr hd hp
theorem pj_4 {q : Nat} (zr : Rel f S) (hd : d < kn S) (kd : kdr S d = D) (hp : q < rn D) : cPnI S (nI d) (nI q) (nI 4) = jI D q := by subst kd; exact pi_4 zr hd hp
theorem rj_0 (zr : Rel f S) (hd : d < kn S) (kd : kdr S d = D) : cRat S (nI d) (nI 0) = nI (zNu D) := by rw [← kd]; exact ra_0 zr hd
theorem rj_1 (zr : Rel f S) (hd : d < kn S) (kd : kdr S d = D) : cRat S (nI d) (nI 1) = nI (zDe D) := by rw [← kd]; exact ra_1 zr hd
theorem rj_J (zr : Rel f S) (hd : d < kn S) (kd : kdr S d = D) : (nI (zNu D)).toInt64 = J (LN (iS D) (iP D)) ∧ (nI (zDe D)).toInt64 = J (LD (iS D) (iP D)) := by
  subst kd
  have ra := ra_all zr hd
  constructor
  · rw [nI_l (by omega), ← ra.1.1, J_lN]
  · rw [nI_l (by omega), ← ra.1.2, J_lN]
end OTHER
theorem jn_s {d : Dr} {q : Nat} : nI (jnN d q) + (jI d q).toInt32 = nI (jnN d (q + 1)) := by
  unfold jI
  by_cases e : rl d q = -1
  · rw [if_pos e, jn_0 e]; exact Int32.add_zero _
  · rw [if_neg e, jn_1 e]; exact nI_1 _
theorem sq_yes {V V' : gV} {a : Nat} {S S' : Dk} {h : Nat} {H : Nat → Dk} {cs : Nat → Int32} {n : Nat} {r x : Int32} {c : Int32 × Option Dk} (t : TC V (a + 29) cs n) (q : r = c.1 ∧ After V V' a S h H c.2) (hc : c = (x, some S')) : r = x ∧ ∃ r0 ρ, AVp V' a S' (remN h) (remH S h H) r0 ρ ∧ TC V' (a + 29) cs n := by
  subst hc
  obtain ⟨e1, ⟨r0, ρ, g⟩, k, o⟩ := q
  exact ⟨e1, r0, ρ, g, t.same k⟩
/-- the class's state, as the law knows it -/
def SQ (V : gV) (a : Nat) (S : Dk) (h : Nat) (H : Nat → Dk) : Prop := (∃ r0 ρ, AVp V a S h H r0 ρ) ∧ ∃ cs, TC V (a + 29) cs 0
/-- what the whole copy satisfies -/
theorem cq_all {f : Nat → Int64} {S S1 : Dk} {T' : Dr} {d kk : Nat} (zr : Rel f S) (hd : d < kn S) (cf : CpF S S1 d kk T') (hw : rsn S (nI d) (kdr S d) = 0) : (frm S1 (kn S) = nI d ∧ rn T' = rn (kdr S d)) ∧ (LN (iS T') (iP T') * (Int.gcd (LN (iS (kdr S d)) (iP (kdr S d)) * aI S) (LD (iS (kdr S d)) (iP (kdr S d)) * bI S) : Int) = LN (iS (kdr S d)) (iP (kdr S d)) * aI S ∧ LD (iS T') (iP T') * (Int.gcd (LN (iS (kdr S d)) (iP (kdr S d)) * aI S) (LD (iS (kdr S d)) (iP (kdr S d)) * bI S) : Int) = LD (iS (kdr S d)) (iP (kdr S d)) * bI S) ∧ (rsx T' = rsx (kdr S d) * sgX S ∧ rsy T' = rsy (kdr S d) * sgY S) ∧ (kf S1 7 = kf S 7 + nI (cntW T' (rn T')) ∧ kf S1 8 = kf S 8 + sumW T' (rn T') ∧ kf S1 5 = kf S 5 + sumW T' (rn T') ∧ kf S1 9 = kf S 9 + nI (jnN T' (rn (kdr S d))) - nI (cntW T' (rn T'))) ∧ ¬ rsn S1 (nI (kn S)) T' = 1 ∧ (Bd (LN (iS (kdr S d)) (iP (kdr S d)) * aI S) ∧ Bd (LD (iS (kdr S d)) (iP (kdr S d)) * bI S) ∧ 0 ≤ LD (iS (kdr S d)) (iP (kdr S d)) * bI S) := by
  obtain ⟨⟨h6, n1, k1⟩, k2, ⟨d0, d1⟩, sm, lj, ⟨e7, e8, e5, e9⟩, -⟩ := cf
  have b := zr.b d hd
  have n6 := zr.n6
  have tp := tr_P (num := nI d) zr hd
  have ra := zr.r.1.1
  have rb := zr.r.1.2.1
  have ll := ra_all zr hd
  have er : rn T' = rn (kdr S d) := sm.2.2.1
  have eS : iS T' = iS (kdr S d) * aI S := by show (rsc T').toInt = _; rw [sm.1.2.1]; exact tp.2.1
  have eP : iP T' = iP (kdr S d) * bI S := by show (rpt T').toInt = _; rw [sm.1.2.2.1]; exact tp.1
  have r1 : 1 ≤ rn (kdr S d) := by
    rcases Nat.lt_or_ge (rn (kdr S d)) 1 with z | z
    · unfold rsn at hw; rw [if_pos z] at hw; exact absurd hw (by decide)
    · exact z
  have rc := rat_c (s := iS (kdr S d)) (p := iP (kdr S d)) (a := aI S) (b := bI S) b.1.1 (show 0 < bI S from by have : 1 ≤ (kf S 1).toInt := rb.1; show 0 < (kf S 1).toInt; omega)
  have a1 : 1 ≤ aI S ∧ aI S ≤ 20 := ra
  have b1 : 1 ≤ bI S ∧ bI S ≤ 20 := rb
  have m1 := Int.mul_le_mul (show LN (iS (kdr S d)) (iP (kdr S d)) ≤ 3200000 by omega) a1.2 (by omega) (by omega)
  have m2 := Int.mul_le_mul (show LD (iS (kdr S d)) (iP (kdr S d)) ≤ 3200000 by omega) b1.2 (by omega) (by omega)
  have m3 := Int.mul_nonneg (show 0 ≤ LN (iS (kdr S d)) (iP (kdr S d)) by omega) (show 0 ≤ aI S by omega)
  have m4 := Int.mul_nonneg (show 0 ≤ LD (iS (kdr S d)) (iP (kdr S d)) by omega) (show 0 ≤ bI S by omega)
  refine ⟨⟨?_, er⟩, ?_, ⟨sm.1.2.2.2.1, sm.1.2.2.2.2⟩, ⟨by rw [er]; exact e7, by rw [er]; exact e8, by rw [er]; exact e5, ?_⟩, ?_, ⟨by omega, by omega⟩, ⟨by omega, by omega⟩, m4⟩
  · have e : rpa T' = nI d := sm.1.1
    unfold frm
    rw [d1, e, if_pos]
    intro z
    have t2 := congrArg Int32.toInt z
    rw [nI_toInt (by omega)] at t2
    have : (-1 : Int32).toInt = -1 := by decide
    omega
  · rw [eS, eP]; exact rc
  · rw [er, ← e9]; exact (Int32.add_sub_cancel _ _).symm
  · intro z
    unfold rsn at z
    rw [if_neg (show ¬ rn T' < 1 by omega)] at z
    split at z
    · exact absurd z (by decide)
    · split at z
      · exact absurd z (by decide)
      · split at z
        · exact absurd z (by decide)
        · exact absurd z (by decide)
