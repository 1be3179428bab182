/-! the questions -/
abbrev npS (S : Dk) (j : Nat) : Nat := rn (kdr S j)
theorem low_of {x p : Int64} (hx : Ab x.toInt 1000000000000000) (h0 : 0 < p.toInt) (hp : p.toInt ≤ 100000000000000) : lowL x p 0 = J (LN x.toInt p.toInt) ∧ lowL x p 1 = J (LD x.toInt p.toInt) := by
  have z := low_J (n := x.toInt) (d := p.toInt) (Bd_of hx (by decide)) h0 (by omega)
  rw [← J_of, ← J_of] at z
  exact z
/-- what a drawing's numbers keep -/
theorem CIv.b {d : Dr} {k : Nat} (h : CIv d k) (hk : k ≤ 5) : (0 < iP d ∧ iP d ≤ 3200000) ∧ (0 < iS d ∧ iS d ≤ 3200000) ∧ (Ab (iH d) 36000000000 ∧ Ab (iG d) 36000000000) ∧ ∀ i, i < rn d → Ab (iX d i) 36000000000 ∧ Ab (iY d i) 36000000000 := by
  have p := pw_le hk
  have b := bn_le hk
  obtain ⟨h1, h2, h3, h4, -⟩ := h
  refine ⟨⟨h1.1, by omega⟩, ⟨h2.1, by omega⟩, ⟨⟨by omega, by omega⟩, by omega, by omega⟩, fun i hi => ?_⟩
  have := h4 i hi
  exact ⟨⟨by omega, by omega⟩, by omega, by omega⟩
theorem Ab.w {z a b : Int} (h : Ab z a) (hab : a ≤ b) : Ab z b := ⟨by have := h.1; omega, by have := h.2; omega⟩
theorem Rel.b {f : Nat → Int64} {S : Dk} (g : Rel f S) (j : Nat) (hj : j < kn S) : (0 < iP (kdr S j) ∧ iP (kdr S j) ≤ 3200000) ∧ (0 < iS (kdr S j) ∧ iS (kdr S j) ≤ 3200000) ∧ (Ab (iH (kdr S j)) 36000000000 ∧ Ab (iG (kdr S j)) 36000000000) ∧ ∀ i, i < rn (kdr S j) → Ab (iX (kdr S j) i) 36000000000 ∧ Ab (iY (kdr S j) i) 36000000000 := by
  obtain ⟨k, hk, c⟩ := g.c j hj
  exact c.b hk
theorem rel_ratio {f : Nat → Int64} {S : Dk} {i q : Int32} (g : Rel f S) : mRat f (kn S) i q = cRat S i q := by
  have n6 := g.n6
  unfold mRat cRat
  by_cases e : inD S i ∧ okR q 0 1
  · rw [if_pos e, if_pos (show inM (kn S) i ∧ okR q 0 1 from e)]
    obtain ⟨d, hd, rfl, ec⟩ := inM_n (n := kn S) (by omega) e.1
    obtain ⟨w, hw, rfl, ew⟩ := ok_w (N := 1) (by decide) e.2
    rw [ec, ew]
    have b := g.b d hd
    have l := low_of (x := rsc (kdr S d)) (p := rpt (kdr S d)) (show Ab (iS (kdr S d)) _ from ⟨by omega, by omega⟩) b.1.1 (show iP (kdr S d) ≤ _ by omega)
    have p := (g.d d hd).1.2.2.1
    have z : w = 0 ∨ w = 1 := by omega
    rcases z with rfl | rfl
    · show (f (hdC d 2)).toInt32 = (lowL _ _ 0).toInt32
      rw [p.1, l.1]
    · show (f (hdC d 3)).toInt32 = (lowL _ _ 1).toInt32
      rw [p.2, l.2]
  · rw [if_neg e, if_neg (show ¬ (inM (kn S) i ∧ okR q 0 1) from e)]
theorem cPI_0 {d : Dr} {x : Int32} : cPI d x (nI 0) = lowL (vX d x) (rpt d) 0 := by
  unfold cPI
  exact if_pos rfl
theorem cPI_1 {d : Dr} {x : Int32} : cPI d x (nI 1) = lowL (vX d x) (rpt d) 1 := by
  unfold cPI
  rw [if_neg (show ¬ nI 1 = (0 : Int32) from cn_ne (b := 0) (by decide) (by decide) (by decide))]
  exact if_pos rfl
theorem cPI_2 {d : Dr} {x : Int32} : cPI d x (nI 2) = lowL (vY d x) (rpt d) 0 := by
  unfold cPI
  rw [if_neg (show ¬ nI 2 = (0 : Int32) from cn_ne (b := 0) (by decide) (by decide) (by decide)), if_neg (show ¬ nI 2 = (1 : Int32) from cn_ne (b := 1) (by decide) (by decide) (by decide))]
  exact if_pos rfl
theorem cPI_3 {d : Dr} {x : Int32} : cPI d x (nI 3) = lowL (vY d x) (rpt d) 1 := by
  unfold cPI
  rw [if_neg (show ¬ nI 3 = (0 : Int32) from cn_ne (b := 0) (by decide) (by decide) (by decide)), if_neg (show ¬ nI 3 = (1 : Int32) from cn_ne (b := 1) (by decide) (by decide) (by decide)), if_neg (show ¬ nI 3 = (2 : Int32) from cn_ne (b := 2) (by decide) (by decide) (by decide))]
  exact if_pos rfl
theorem cPI_4 {d : Dr} {x : Int32} : cPI d x (nI 4) = (if ¬ vL d x = -1 then 1 else 0) := by
  unfold cPI
  rw [if_neg (show ¬ nI 4 = (0 : Int32) from cn_ne (b := 0) (by decide) (by decide) (by decide)), if_neg (show ¬ nI 4 = (1 : Int32) from cn_ne (b := 1) (by decide) (by decide) (by decide)), if_neg (show ¬ nI 4 = (2 : Int32) from cn_ne (b := 2) (by decide) (by decide) (by decide)), if_neg (show ¬ nI 4 = (3 : Int32) from cn_ne (b := 3) (by decide) (by decide) (by decide))]
  exact if_pos rfl
theorem cPI_5 {d : Dr} {x : Int32} : cPI d x (nI 5) = (vW d x).toInt64 := by
  unfold cPI
  rw [if_neg (show ¬ nI 5 = (0 : Int32) from cn_ne (b := 0) (by decide) (by decide) (by decide)), if_neg (show ¬ nI 5 = (1 : Int32) from cn_ne (b := 1) (by decide) (by decide) (by decide)), if_neg (show ¬ nI 5 = (2 : Int32) from cn_ne (b := 2) (by decide) (by decide) (by decide)), if_neg (show ¬ nI 5 = (3 : Int32) from cn_ne (b := 3) (by decide) (by decide) (by decide)), if_neg (show ¬ nI 5 = (4 : Int32) from cn_ne (b := 4) (by decide) (by decide) (by decide))]
  exact if_pos rfl
theorem cPI_6 {d : Dr} {x : Int32} : cPI d x (nI 6) = (if 0 < vW d x then (vLen d x).toInt64 else 0) := by
  unfold cPI
  rw [if_neg (show ¬ nI 6 = (0 : Int32) from cn_ne (b := 0) (by decide) (by decide) (by decide)), if_neg (show ¬ nI 6 = (1 : Int32) from cn_ne (b := 1) (by decide) (by decide) (by decide)), if_neg (show ¬ nI 6 = (2 : Int32) from cn_ne (b := 2) (by decide) (by decide) (by decide)), if_neg (show ¬ nI 6 = (3 : Int32) from cn_ne (b := 3) (by decide) (by decide) (by decide)), if_neg (show ¬ nI 6 = (4 : Int32) from cn_ne (b := 4) (by decide) (by decide) (by decide)), if_neg (show ¬ nI 6 = (5 : Int32) from cn_ne (b := 5) (by decide) (by decide) (by decide))]
  exact if_pos rfl
theorem rel_pinfo {f : Nat → Int64} {S : Dk} {i x q : Int32} (g : Rel f S) : mPI f (kn S) (npS S) i x q = cPnI S i x q := by
  have n6 := g.n6
  unfold mPI cPnI
  by_cases e : inD S i ∧ inP (kdr S i.toNatClampNeg) x
  · rw [if_pos e]
    by_cases e2 : okR q 0 6
    · rw [if_pos (show isPt (kn S) (npS S) i x ∧ okR q 0 6 from ⟨e, e2⟩)]
      obtain ⟨d, k, hd, hk, h20, rfl, rfl, ec, ek⟩ := isPt_n g.w (show isPt (kn S) (npS S) i x from e)
      obtain ⟨w, hw, rfl, ew⟩ := ok_w (N := 6) (by decide) e2
      rw [ec, ek, ew]
      have b := g.b d hd
      have v := vX_n (d := kdr S d) hk h20
      have p := (g.d d hd).2 k hk
      have lx := low_of (x := rX (kdr S d) k) (p := rpt (kdr S d)) ((b.2.2.2 k hk).1.w (by decide)) b.1.1 (show iP (kdr S d) ≤ _ by omega)
      have ly := low_of (x := rY (kdr S d) k) (p := rpt (kdr S d)) ((b.2.2.2 k hk).2.w (by decide)) b.1.1 (show iP (kdr S d) ≤ _ by omega)
      have z : w = 0 ∨ w = 1 ∨ w = 2 ∨ w = 3 ∨ w = 4 ∨ w = 5 ∨ w = 6 := by omega
      rcases z with rfl | rfl | rfl | rfl | rfl | rfl | rfl
      · rw [cPI_0, v.1, lx.1]; exact p.1.1
      · rw [cPI_1, v.1, lx.2]; exact p.1.2.1
      · rw [cPI_2, v.2.1, ly.1]; exact p.1.2.2.1
      · rw [cPI_3, v.2.1, ly.2]; exact p.1.2.2.2
      · rw [cPI_4, v.2.2, p.2.1]
        by_cases q : rl (kdr S d) k = -1
        · rw [if_pos q, if_neg (fun z => z q)]
        · rw [if_neg q, if_pos q]
      · rw [cPI_5, p.2.2.1]
        unfold vW
        rw [v.2.2]
        by_cases q : rl (kdr S d) k < 0
        · rw [if_pos q, if_pos q]; rfl
        · rw [if_neg q, if_neg q]
      · rw [cPI_6, p.2.2.2]
        unfold vW
        rw [v.2.2]
        by_cases q : rl (kdr S d) k < 0
        · rw [if_pos q, if_neg (show ¬ (0 : Int32) < 0 by decide), if_neg (fun z => by rw [Int32.lt_iff_toInt_lt] at z q; omega)]
        · rw [if_neg q]
    · rw [if_neg (fun z => e2 z.2)]
      have o : q.toInt < 0 ∨ 6 < q.toInt := by
        rcases Int.lt_or_le q.toInt 0 with z | z
        · exact Or.inl z
        · rcases Int.lt_or_le 6 q.toInt with z2 | z2
          · exact Or.inr z2
          · exfalso
            refine e2 ⟨?_, ?_⟩
            · rw [Int32.lt_iff_toInt_lt]; have : (0 : Int32).toInt = 0 := rfl; omega
            · rw [Int32.lt_iff_toInt_lt]; have : (6 : Int32).toInt = 6 := rfl; omega
      unfold cPI
      rw [if_neg (sw_no (z := 0) o (by decide) (by decide)), if_neg (sw_no (z := 1) o (by decide) (by decide)), if_neg (sw_no (z := 2) o (by decide) (by decide)), if_neg (sw_no (z := 3) o (by decide) (by decide)), if_neg (sw_no (z := 4) o (by decide) (by decide)), if_neg (sw_no (z := 5) o (by decide) (by decide)), if_neg (sw_no (z := 6) o (by decide) (by decide))]
  · rw [if_neg e, if_neg (fun z => e z.1)]
theorem mul_ab {x y a b : Int} (hx : Ab x a) (hy : Ab y b) (ha : 0 ≤ a) (hb : 0 ≤ b) : Ab (x * y) (a * b) := by
  have h1 : x.natAbs ≤ a.natAbs := by have := hx.1; have := hx.2; omega
  have h2 : y.natAbs ≤ b.natAbs := by have := hy.1; have := hy.2; omega
  have h3 := Nat.mul_le_mul h1 h2
  rw [← Int.natAbs_mul, ← Int.natAbs_mul] at h3
  have h4 := Int.mul_nonneg ha hb
  constructor <;> omega
/-- the same place, in whole numbers -/
theorem same_x {x1 p1 x2 p2 : Int64} (b1 : Ab x1.toInt 36000000000) (c1 : 0 < p1.toInt ∧ p1.toInt ≤ 3200000) (b2 : Ab x2.toInt 36000000000) (c2 : 0 < p2.toInt ∧ p2.toInt ≤ 3200000) : x1 * p2 = x2 * p1 ↔ (J (LN x1.toInt p1.toInt) = J (LN x2.toInt p2.toInt) ∧ J (LD x1.toInt p1.toInt) = J (LD x2.toInt p2.toInt)) := by
  have m1 := mul_ab b1 (show Ab p2.toInt 3200000 from ⟨by omega, by omega⟩) (by decide) (by decide)
  have m2 := mul_ab b2 (show Ab p1.toInt 3200000 from ⟨by omega, by omega⟩) (by decide) (by decide)
  have a1 := Bd_N (n := x1.toInt) c1.1 ⟨by omega, by omega⟩
  have a2 := Bd_N (n := x2.toInt) c2.1 ⟨by omega, by omega⟩
  have d1 := Bd_D (n := x1.toInt) c1.1 ⟨by omega, by omega⟩
  have d2 := Bd_D (n := x2.toInt) c2.1 ⟨by omega, by omega⟩
  rw [J_eq a1 a2, J_eq d1 d2, lq_e c1.1 c2.1]
  conv => lhs; rw [J_of x1, J_of x2, J_of p1, J_of p2, J_mul, J_mul]
  rw [J_eq ⟨by omega, by omega⟩ ⟨by omega, by omega⟩]
theorem rel_alk {f : Nat → Int64} {S : Dk} {d b : Nat} (g : Rel f S) (hd : d < kn S) (hb : b < kn S) : ∀ k, k ≤ rn (kdr S d) → k ≤ rn (kdr S b) → mAlk f d b k = nI (alkF (kdr S d) (kdr S b) k)
  | 0, _, _ => rfl
  | k + 1, h1, h2 => by
    have ih := rel_alk g hd hb k (by omega) (by omega)
    have bd := g.b d hd
    have bb := g.b b hb
    have vd := vX_n (d := kdr S d) (i := k) (by omega) (g.n20 d hd)
    have vb := vX_n (d := kdr S b) (i := k) (by omega) (g.n20 b hb)
    have pd := ((g.d d hd).2 k (by omega)).1
    have pb := ((g.d b hb).2 k (by omega)).1
    have sx := same_x (bd.2.2.2 k (by omega)).1 bd.1 (bb.2.2.2 k (by omega)).1 bb.1
    have sy := same_x (bd.2.2.2 k (by omega)).2 bd.1 (bb.2.2.2 k (by omega)).2 bb.1
    have key : sm4 f d b k ↔ (vX (kdr S d) (nI k) * rpt (kdr S b) = vX (kdr S b) (nI k) * rpt (kdr S d) ∧ vY (kdr S d) (nI k) * rpt (kdr S b) = vY (kdr S b) (nI k) * rpt (kdr S d)) := by
      unfold sm4
      rw [pd.1, pd.2.1, pd.2.2.1, pd.2.2.2, pb.1, pb.2.1, pb.2.2.1, pb.2.2.2, vd.1, vd.2.1, vb.1, vb.2.1, sx, sy]
      exact ⟨fun z => ⟨⟨z.1, z.2.1⟩, z.2.2.1, z.2.2.2⟩, fun z => ⟨z.1.1, z.1.2, z.2.1, z.2.2⟩⟩
    unfold mAlk alkF
    rw [ih, ← nI_add]
    congr 1
    by_cases e : sm4 f d b k
    · rw [if_pos e, if_pos (key.mp e)]; rfl
    · rw [if_neg e, if_neg (fun z => e (key.mpr z))]; rfl
theorem rel_alike {f : Nat → Int64} {S : Dk} {i j : Int32} (g : Rel f S) : mAl f (kn S) (npS S) i j = cAlk S i j := by
  have n6 := g.n6
  unfold mAl cAlk
  by_cases e : inD S i ∧ inD S j
  · rw [if_pos e, if_pos (show inM (kn S) i ∧ inM (kn S) j from e)]
    obtain ⟨d, hd, rfl, ec⟩ := inM_n (n := kn S) (by omega) e.1
    obtain ⟨b, hb, rfl, eb⟩ := inM_n (n := kn S) (by omega) e.2
    rw [ec, eb]
    exact rel_alk g hd hb _ (Nat.min_le_left _ _) (Nat.min_le_right _ _)
  · rw [if_neg e, if_neg (show ¬ (inM (kn S) i ∧ inM (kn S) j) from e)]
theorem LN_pos {n d : Int} (h : 0 < d) (hn : 0 < n) : 0 < LN n d := by
  have z := LN_nn h (show 0 ≤ n by omega)
  obtain ⟨m, m0, e1, -, -⟩ := lq_m n h
  rcases Int.lt_or_le 0 (LN n d) with q | q
  · exact q
  · exfalso
    have : LN n d = 0 := by omega
    rw [this, Int.zero_mul] at e1; omega
theorem LN_le {n d : Int} (h : 0 < d) (hn : 0 ≤ n) : LN n d ≤ n := by
  obtain ⟨m, m0, e1, -, -⟩ := lq_m n h
  have := Int.mul_le_mul_of_nonneg_left (show 1 ≤ m by omega) (LN_nn h hn)
  rw [Int.mul_one, ← e1] at this; exact this
theorem rel_armFor {f : Nat → Int64} {S : Dk} {i j : Int32} (g : Rel f S) : mAF f (kn S) i j = cArF S i j := by
  have n6 := g.n6
  unfold mAF cArF
  by_cases e : inD S i ∧ inD S j
  · rw [if_pos e, if_pos (show inM (kn S) i ∧ inM (kn S) j from e)]
    obtain ⟨d, hd, rfl, ec⟩ := inM_n (n := kn S) (by omega) e.1
    obtain ⟨b, hb, rfl, eb⟩ := inM_n (n := kn S) (by omega) e.2
    rw [ec, eb]
    have bd := g.b d hd
    have bb := g.b b hb
    have pd := (g.d d hd).1.2.2.1
    have pb := (g.d b hb).1.2.2.1
    obtain ⟨m1, m10, a1, a2, a3⟩ := lq_m (iS (kdr S d)) bd.1.1
    obtain ⟨m2, m20, b1, b2, b3⟩ := lq_m (iS (kdr S b)) bb.1.1
    have l1 := LN_pos (n := iS (kdr S d)) bd.1.1 bd.2.1.1
    have l2 := LN_pos (n := iS (kdr S b)) bb.1.1 bb.2.1.1
    have l3 := LN_le (n := iS (kdr S d)) bd.1.1 (by omega)
    have l4 := LN_le (n := iS (kdr S b)) bb.1.1 (by omega)
    have l5 := LD_le (n := iS (kdr S d)) bd.1.1
    have l6 := LD_le (n := iS (kdr S b)) bb.1.1
    have mm : ∀ {x y : Int}, 0 < x → x ≤ 3200000 → 0 < y → y ≤ 3200000 → 0 < x * y ∧ x * y ≤ 10240000000000 := fun {x y} h1 h2 h3 h4 => ⟨Int.mul_pos h1 h3, by have := Int.mul_le_mul h2 h4 (by omega) (by omega); omega⟩
    have q1 := mm l1 (by omega) b3 (by omega)
    have q2 := mm a3 (by omega) l2 (by omega)
    have q3 := mm bd.2.1.1 bd.2.1.2 bb.1.1 bb.1.2
    have q4 := mm bd.1.1 bd.1.2 bb.2.1.1 bb.2.1.2
    have r := lq_r (n := LN (iS (kdr S d)) (iP (kdr S d)) * LD (iS (kdr S b)) (iP (kdr S b))) (d := LD (iS (kdr S d)) (iP (kdr S d)) * LN (iS (kdr S b)) (iP (kdr S b))) (n2 := iS (kdr S d) * iP (kdr S b)) (d2 := iP (kdr S d) * iS (kdr S b)) q2.1 q4.1 (by
      conv => lhs; rw [show iP (kdr S d) * iS (kdr S b) = (LD (iS (kdr S d)) (iP (kdr S d)) * m1) * (LN (iS (kdr S b)) (iP (kdr S b)) * m2) by rw [← a2, ← b1]]
      conv => rhs; rw [show iS (kdr S d) * iP (kdr S b) = (LN (iS (kdr S d)) (iP (kdr S d)) * m1) * (LD (iS (kdr S b)) (iP (kdr S b)) * m2) by rw [← a1, ← b2]]
      ac_rfl)
    have rd := rd_J (n := LN (iS (kdr S d)) (iP (kdr S d)) * LD (iS (kdr S b)) (iP (kdr S b))) (d := LD (iS (kdr S d)) (iP (kdr S d)) * LN (iS (kdr S b)) (iP (kdr S b))) ⟨by omega, by omega⟩ ⟨by omega, by omega⟩ q2.1
    have lw := low_J (n := iS (kdr S d) * iP (kdr S b)) (d := iP (kdr S d) * iS (kdr S b)) ⟨by omega, by omega⟩ q4.1 (by omega)
    have eN : mfN f d b = lowL (afN (kdr S d) (kdr S b)) (afD (kdr S d) (kdr S b)) 0 := by
      unfold mfN afN afD
      rw [pd.1, show f (hdC b 2 + 1) = _ from pb.2, show f (hdC d 2 + 1) = _ from pd.2, pb.1, J_mul, J_mul, rd.1, r.1, show rsc (kdr S d) = J (iS (kdr S d)) from J_of _, show rpt (kdr S b) = J (iP (kdr S b)) from J_of _, show rpt (kdr S d) = J (iP (kdr S d)) from J_of _, show rsc (kdr S b) = J (iS (kdr S b)) from J_of _, J_mul, J_mul, lw.1]
    have eD : mfD f d b = lowL (afN (kdr S d) (kdr S b)) (afD (kdr S d) (kdr S b)) 1 := by
      unfold mfD afN afD
      rw [pd.1, show f (hdC b 2 + 1) = _ from pb.2, show f (hdC d 2 + 1) = _ from pd.2, pb.1, J_mul, J_mul, rd.2, r.2, show rsc (kdr S d) = J (iS (kdr S d)) from J_of _, show rpt (kdr S b) = J (iP (kdr S b)) from J_of _, show rpt (kdr S d) = J (iP (kdr S d)) from J_of _, show rsc (kdr S b) = J (iS (kdr S b)) from J_of _, J_mul, J_mul, lw.2]
    rw [eN, eD]
  · rw [if_neg e, if_neg (show ¬ (inM (kn S) i ∧ inM (kn S) j) from e)]
/-! chains -/
theorem rel_chain {f : Nat → Int64} {S : Dk} (g : Rel f S) : ∀ (w d : Nat), d < kn S → d < w → ∀ m, d < m → orgF S m (nI d) = nI (mRt f w d) ∧ ∀ z, stpF S m z (nI d) = nI (z + mSt f w d) := by
  have n6 := g.n6
  intro w
  induction w with
  | zero => intro d _ h; omega
  | succ w ih =>
    intro d hd hw m hm
    obtain ⟨v, rfl⟩ : ∃ v, m = v + 1 := ⟨m - 1, by omega⟩
    have ep : (f (hdC d 1)).toInt32 = rpa (kdr S d) := by rw [(g.d d hd).1.2.1, i64_32]
    unfold mRt mSt
    rw [ep]
    obtain ⟨K, hK⟩ := g.K
    rcases (hK d hd).2.1 with ⟨z, -⟩ | ⟨q, hq, z, -⟩
    · rw [if_pos z, if_pos z, orgF_org z (by omega)]
      exact ⟨rfl, fun x => stpF_org z (by omega)⟩
    · have zn : ¬ rpa (kdr S d) = -1 := by
        rw [z]
        intro z2
        have z3 := congrArg Int32.toInt z2
        rw [nI_toInt (by omega)] at z3
        have : (-1 : Int32).toInt = -1 := by decide
        omega
      obtain ⟨i1, i2⟩ := ih q (by omega) (by omega) v (by omega)
      rw [if_neg zn, if_neg zn, orgF_cp n6 hd zn, z, nI_clamp (show q < 2 ^ 31 by omega)]
      refine ⟨i1, fun x => ?_⟩
      rw [stpF_cp n6 hd zn, z, i2 (x + 1)]
      congr 1; omega
theorem rel_root {f : Nat → Int64} {S : Dk} (g : Rel f S) {d : Nat} (hd : d < kn S) : orgF S 6 (nI d) = nI (mRt f (d + 1) d) ∧ stpF S 6 0 (nI d) = nI (mSt f (d + 1) d) := by
  have n6 := g.n6
  obtain ⟨a, b⟩ := rel_chain g (d + 1) d hd (by omega) 6 (by omega)
  refine ⟨a, (b 0).trans ?_⟩
  rw [Nat.zero_add]
/-- the root is an original with as many points -/
theorem root_is {f : Nat → Int64} {S : Dk} (g : Rel f S) : ∀ (w d : Nat), d < kn S → d < w → mRt f w d < kn S ∧ rpa (kdr S (mRt f w d)) = -1 ∧ rn (kdr S (mRt f w d)) = rn (kdr S d) := by
  have n6 := g.n6
  intro w
  induction w with
  | zero => intro d _ h; omega
  | succ w ih =>
    intro d hd hw
    have ep : (f (hdC d 1)).toInt32 = rpa (kdr S d) := by rw [(g.d d hd).1.2.1, i64_32]
    unfold mRt
    rw [ep]
    obtain ⟨K, hK⟩ := g.K
    rcases (hK d hd).2.1 with ⟨z, -⟩ | ⟨q, hq, z, -, zr⟩
    · rw [if_pos z]; exact ⟨hd, z, rfl⟩
    · have zn : ¬ rpa (kdr S d) = -1 := by
        rw [z]
        intro z2
        have z3 := congrArg Int32.toInt z2
        rw [nI_toInt (by omega)] at z3
        have : (-1 : Int32).toInt = -1 := by decide
        omega
      obtain ⟨i1, i2, i3⟩ := ih q (by omega) (by omega)
      rw [if_neg zn, z, nI_clamp (show q < 2 ^ 31 by omega)]
      exact ⟨i1, i2, i3.trans zr.symm⟩
/-- an original: its numbers are whole -/
theorem org_is {f : Nat → Int64} {S : Dk} (g : Rel f S) {d : Nat} (hd : d < kn S) (h : rpa (kdr S d) = -1) : CIv (kdr S d) 0 ∧ iP (kdr S d) = 1 ∧ iS (kdr S d) = 1 := by
  have n6 := g.n6
  obtain ⟨K, hK⟩ := g.K
  rcases (hK d hd).2.1 with ⟨-, z⟩ | ⟨q, hq, z, -⟩
  · have c := (hK d hd).1
    rw [z] at c
    have c1 := c.1; have c2 := c.2.1
    have p : pw 0 = 1 := rfl
    exact ⟨c, by omega, by omega⟩
  · exfalso
    rw [h] at z
    have z2 := congrArg Int32.toInt z
    rw [nI_toInt (by omega)] at z2
    have z3 : (-1 : Int32).toInt = -1 := by decide
    omega
theorem LN_1 (n : Int) : LN n 1 = n ∧ LD n 1 = 1 := by
  have z := lq_z n (d := 1) (by decide)
  rw [Int.mul_one] at z; exact z
theorem sgn_ab {x : Int32} (h : x = 1 ∨ x = -1) : Ab x.toInt 1 := by
  rcases h with rfl | rfl <;> exact ⟨by decide, by decide⟩
/-- one axis of atOnce -/
theorem ao_ax {fs fd rN rD s place : Int64} {h p s0 x sg : Int} (hp : 0 < p) (bp : p ≤ 3200000) (bs : 0 < s0 ∧ s0 ≤ 3200000) (bh : Ab h 36000000000) (bx : Ab x 1000) (bg : Ab sg 1) (e1 : fs = J (LN h p)) (e2 : fd = J (LD h p)) (e3 : rN = J (LN s0 p)) (e4 : rD = J (LD s0 p)) (e5 : s = J sg) (e6 : place = J x) : (rdN (plN fs fd (s * place) rN rD) (plD fd rD) = lowL (J s0 * J sg * J x + J h) (J p) 0 ∧ rdD (plN fs fd (s * place) rN rD) (plD fd rD) = lowL (J s0 * J sg * J x + J h) (J p) 1) ∧ ¬ dvs fd rD = 0 := by
  have m1 := mul_ab bg bx (by decide) (by decide)
  have m2 := mul_ab m1 (show Ab s0 3200000 from ⟨by omega, by omega⟩) (by decide) (by decide)
  obtain ⟨⟨a, b⟩, c⟩ := PL (x := h) (y := s0) (sg * x) hp ⟨by omega, by omega⟩ ⟨by omega, by omega⟩
  have ez : s0 * sg * x + h = h + sg * x * s0 := by
    rw [Int.add_comm]; congr 1; ac_rfl
  have lw := low_J (n := s0 * sg * x + h) (d := p) (by rw [ez]; exact ⟨by omega, by omega⟩) hp (by omega)
  rw [J_mul, J_mul, J_add, lw.1, lw.2, ez, e1, e2, e3, e4, e5, e6, J_mul]
  exact ⟨⟨a, b⟩, c⟩
theorem cAO_0 {S : Dk} {d b : Dr} {x : Int32} : cAO S d b x (nI 0) = lowL (rsc d * (rsx d).toInt64 * vX b x + rhx d) (rpt d) 0 := by unfold cAO; exact if_pos rfl
theorem cAO_1 {S : Dk} {d b : Dr} {x : Int32} : cAO S d b x (nI 1) = lowL (rsc d * (rsx d).toInt64 * vX b x + rhx d) (rpt d) 1 := by
  unfold cAO
  rw [if_neg (show ¬ nI 1 = (0 : Int32) from cn_ne (b := 0) (by decide) (by decide) (by decide))]
  exact if_pos rfl
theorem cAO_2 {S : Dk} {d b : Dr} {x : Int32} : cAO S d b x (nI 2) = lowL (rsc d * (rsy d).toInt64 * vY b x + rhy d) (rpt d) 0 := by
  unfold cAO
  rw [if_neg (show ¬ nI 2 = (0 : Int32) from cn_ne (b := 0) (by decide) (by decide) (by decide)), if_neg (show ¬ nI 2 = (1 : Int32) from cn_ne (b := 1) (by decide) (by decide) (by decide))]
  exact if_pos rfl
theorem cAO_3 {S : Dk} {d b : Dr} {x : Int32} : cAO S d b x (nI 3) = lowL (rsc d * (rsy d).toInt64 * vY b x + rhy d) (rpt d) 1 := by
  unfold cAO
  rw [if_neg (show ¬ nI 3 = (0 : Int32) from cn_ne (b := 0) (by decide) (by decide) (by decide)), if_neg (show ¬ nI 3 = (1 : Int32) from cn_ne (b := 1) (by decide) (by decide) (by decide)), if_neg (show ¬ nI 3 = (2 : Int32) from cn_ne (b := 2) (by decide) (by decide) (by decide))]
  exact if_pos rfl
theorem ao_all {f : Nat → Int64} {S : Dk} (g : Rel f S) {d k : Nat} (hd : d < kn S) (hk : k < rn (kdr S d)) : (((rdN (aoN f d k 0) (aoD f d 0) = lowL (rsc (kdr S d) * (rsx (kdr S d)).toInt64 * vX (kdr S (mRt f (d + 1) d)) (nI k) + rhx (kdr S d)) (rpt (kdr S d)) 0 ∧ rdD (aoN f d k 0) (aoD f d 0) = lowL (rsc (kdr S d) * (rsx (kdr S d)).toInt64 * vX (kdr S (mRt f (d + 1) d)) (nI k) + rhx (kdr S d)) (rpt (kdr S d)) 1) ∧ rdN (aoN f d k 1) (aoD f d 1) = lowL (rsc (kdr S d) * (rsy (kdr S d)).toInt64 * vY (kdr S (mRt f (d + 1) d)) (nI k) + rhy (kdr S d)) (rpt (kdr S d)) 0 ∧ rdD (aoN f d k 1) (aoD f d 1) = lowL (rsc (kdr S d) * (rsy (kdr S d)).toInt64 * vY (kdr S (mRt f (d + 1) d)) (nI k) + rhy (kdr S d)) (rpt (kdr S d)) 1)) := by
  obtain ⟨r1, r2, r3⟩ := root_is g (d + 1) d hd (by omega)
  obtain ⟨c0, p1, -⟩ := org_is g r1 r2
  generalize hr : mRt f (d + 1) d = r at *
  have hk2 : k < rn (kdr S r) := by omega
  have b := g.b d hd
  have pe := (g.d d hd).1
  have pp := ((g.d r r1).2 k hk2).1
  have bx := c0.2.2.2.1 k hk2
  have b0 : bn 0 = 1000 := rfl
  rw [b0] at bx
  have v := vX_n (d := kdr S r) hk2 (g.n20 r r1)
  obtain ⟨kk, -, ck⟩ := g.c d hd
  have sx := sgn_ab ck.2.2.2.2.2.1
  have sy := sgn_ab ck.2.2.2.2.2.2
  have ex : f (ceC r k + 0) = J (iX (kdr S r) k) := by rw [pp.1, p1, (LN_1 _).1]
  have ey : f (ceC r k + 2) = J (iY (kdr S r) k) := by rw [pp.2.2.1, p1, (LN_1 _).1]
  have ax := ao_ax b.1.1 b.1.2 b.2.1 b.2.2.1.1 bx.1 sx pe.2.2.2.2.1.1 (show f (hdC d 6 + 1) = _ from pe.2.2.2.2.1.2) pe.2.2.1.1 pe.2.2.1.2 (pe.2.2.2.1.1.trans (i32_J _)) ex
  have ay := ao_ax b.1.1 b.1.2 b.2.1 b.2.2.1.2 bx.2 sy pe.2.2.2.2.2.1 (show f (hdC d 8 + 1) = _ from pe.2.2.2.2.2.2) pe.2.2.1.1 pe.2.2.1.2 (pe.2.2.2.1.2.trans (i32_J _)) ey
  have z1 : rsc (kdr S d) = J (iS (kdr S d)) := J_of _
  have z2 : rpt (kdr S d) = J (iP (kdr S d)) := J_of _
  have z3 : rhx (kdr S d) = J (iH (kdr S d)) := J_of _
  have z4 : rhy (kdr S d) = J (iG (kdr S d)) := J_of _
  have z5 : vX (kdr S r) (nI k) = J (iX (kdr S r) k) := v.1.trans (J_of _)
  have z6 : vY (kdr S r) (nI k) = J (iY (kdr S r) k) := v.2.1.trans (J_of _)
  rw [z1, z2, z3, z4, z5, z6, i32_J (rsx (kdr S d)), i32_J (rsy (kdr S d))]
  refine ⟨?_, ?_⟩
  · unfold aoN aoD
    rw [hr]
    exact ax.1
  · unfold aoN aoD
    rw [hr]
    exact ay.1
theorem rel_aoOK {f : Nat → Int64} {S : Dk} (g : Rel f S) : ∀ d, d < kn S → ∀ ax, ax < 2 → ¬ dvs (f (hdC d (6 + 2 * ax) + 1)) (f (hdC d 3)) = 0 := fun d hd ax hax => by
  have b := g.b d hd
  have pe := (g.d d hd).1
  have q := fun (h : Int) (bh : Ab h 36000000000) => (PL (x := h) (y := iS (kdr S d)) 1 b.1.1 ⟨by omega, by omega⟩ ⟨by omega, by omega⟩).2
  have z : ax = 0 ∨ ax = 1 := by omega
  rcases z with rfl | rfl
  · rw [show f (hdC d (6 + 2 * 0) + 1) = _ from pe.2.2.2.2.1.2, pe.2.2.1.2]; exact q _ b.2.2.1.1
  · rw [show f (hdC d (6 + 2 * 1) + 1) = _ from pe.2.2.2.2.2.2, pe.2.2.1.2]; exact q _ b.2.2.1.2
theorem rel_atOnce {f : Nat → Int64} {S : Dk} {i x q : Int32} (g : Rel f S) : mAO f (kn S) (npS S) i x q = cAtO S i x q := by
  have n6 := g.n6
  unfold mAO cAtO
  by_cases e : inD S i ∧ inP (kdr S i.toNatClampNeg) x
  · obtain ⟨d, k, hd, hk, h20, rfl, rfl, ec, ek⟩ := isPt_n g.w (show isPt (kn S) (npS S) i x from e)
    obtain ⟨o1, -⟩ := rel_root g hd
    obtain ⟨r1, r2, r3⟩ := root_is g (d + 1) d hd (by omega)
    have ein : inD S (orgF S 6 (nI d)) := by rw [o1]; exact jin n6 r1
    rw [if_pos (show (inD S (nI d) ∧ inD S (orgF S 6 (nI d))) ∧ inP (kdr S (nI d).toNatClampNeg) (nI k) from ⟨⟨e.1, ein⟩, e.2⟩)]
    have a := ao_all g hd hk
    by_cases e2 : okR q 0 3
    · rw [if_pos (show isPt (kn S) (npS S) (nI d) (nI k) ∧ okR q 0 3 from ⟨e, e2⟩)]
      obtain ⟨w, hw, rfl, ew⟩ := ok_w (N := 3) (by decide) e2
      rw [ec, o1, nI_clamp (show mRt f (d + 1) d < 2 ^ 31 by omega), ew, ek]
      have z : w = 0 ∨ w = 1 ∨ w = 2 ∨ w = 3 := by omega
      rcases z with rfl | rfl | rfl | rfl
      · rw [cAO_0]; exact (if_pos rfl).trans a.1.1
      · rw [cAO_1]; exact (if_neg (by decide)).trans a.1.2
      · rw [cAO_2]; exact (if_pos rfl).trans a.2.1
      · rw [cAO_3]; exact (if_neg (by decide)).trans a.2.2
    · rw [if_neg (fun z => e2 z.2)]
      have o : q.toInt < 0 ∨ 3 < q.toInt := by
        rcases Int.lt_or_le q.toInt 0 with z | z
        · exact Or.inl z
        · rcases Int.lt_or_le 3 q.toInt with z2 | z2
          · exact Or.inr z2
          · exfalso
            refine e2 ⟨?_, ?_⟩
            · rw [Int32.lt_iff_toInt_lt]; have : (0 : Int32).toInt = 0 := rfl; omega
            · rw [Int32.lt_iff_toInt_lt]; have : (3 : Int32).toInt = 3 := rfl; omega
      unfold cAO
      rw [if_neg (sw_no (z := 0) o (by decide) (by decide)), if_neg (sw_no (z := 1) o (by decide) (by decide)), if_neg (sw_no (z := 2) o (by decide) (by decide)), if_neg (sw_no (z := 3) o (by decide) (by decide))]
  · rw [if_neg (show ¬ (isPt (kn S) (npS S) i x ∧ okR q 0 3) from fun z => e z.1), if_neg (fun z => e ⟨z.1.1, z.2⟩)]

