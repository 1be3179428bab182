/-! the class's state and the reference's page -/
abbrev iS (d : Dr) : Int := (rsc d).toInt
abbrev iP (d : Dr) : Int := (rpt d).toInt
abbrev iH (d : Dr) : Int := (rhx d).toInt
abbrev iG (d : Dr) : Int := (rhy d).toInt
abbrev iX (d : Dr) (i : Nat) : Int := (rX d i).toInt
abbrev iY (d : Dr) (i : Nat) : Int := (rY d i).toInt
/-- the cells of a point -/
def PP (f : Nat → Int64) (c : Nat) (d : Dr) (i : Nat) : Prop := (f (c + 0) = J (LN (iX d i) (iP d)) ∧ f (c + 1) = J (LD (iX d i) (iP d)) ∧ f (c + 2) = J (LN (iY d i) (iP d)) ∧ f (c + 3) = J (LD (iY d i) (iP d))) ∧ f (c + 4) = (if rl d i = -1 then 0 else 1) ∧ f (c + 5) = (if rl d i < 0 then 0 else (rl d i).toInt64) ∧ f (c + 6) = (if 0 < rl d i then (vLen d (nI i)).toInt64 else 0)
/-- the cells of a drawing but its points -/
def PE (f : Nat → Int64) (j : Nat) (d : Dr) : Prop := f (hdC j 0) = lN (rn d) ∧ f (hdC j 1) = (rpa d).toInt64 ∧ (f (hdC j 2) = J (LN (iS d) (iP d)) ∧ f (hdC j 3) = J (LD (iS d) (iP d))) ∧ (f (hdC j 4) = (rsx d).toInt64 ∧ f (hdC j 5) = (rsy d).toInt64) ∧ (f (hdC j 6) = J (LN (iH d) (iP d)) ∧ f (hdC j 7) = J (LD (iH d) (iP d))) ∧ f (hdC j 8) = J (LN (iG d) (iP d)) ∧ f (hdC j 9) = J (LD (iG d) (iP d))
def PD (f : Nat → Int64) (j : Nat) (d : Dr) : Prop := PE f j d ∧ ∀ i, i < rn d → PP f (ceC j i) d i
/-- the desk's own cells -/
def PH (f : Nat → Int64) (S : Dk) : Prop := (f 0 = (kf S 0).toInt64 ∧ f 1 = (kf S 1).toInt64 ∧ f 2 = (kf S 2).toInt64 ∧ f 3 = (kf S 3).toInt64) ∧ (f 4 = (ks S 0).toInt64 ∧ f 5 = (ks S 1).toInt64 ∧ f 6 = (ks S 2).toInt64 ∧ f 7 = (ks S 3).toInt64 ∧ f 8 = (ks S 4).toInt64) ∧ f 9 = (kf S 5).toInt64 ∧ f 10 = J (10 - (kf S 6).toInt) ∧ ((f 11).toInt32 = kf S 7 ∧ (f 12).toInt32 = kf S 8 ∧ (f 13).toInt32 = kf S 9) ∧ f 14 = lN (kn S)
abbrev Rg (x : Int32) (a b : Int) : Prop := a ≤ x.toInt ∧ x.toInt ≤ b
def RH (S : Dk) : Prop := (Rg (kf S 0) 1 20 ∧ Rg (kf S 1) 1 20 ∧ Rg (kf S 2) 0 1000 ∧ Rg (kf S 3) 0 1000) ∧ (Rg (ks S 0) 0 2 ∧ Rg (ks S 1) 0 50 ∧ Rg (ks S 2) 10 1000 ∧ Rg (ks S 3) 10 1000 ∧ Rg (ks S 4) 1 1000) ∧ Rg (kf S 5) 0 100000 ∧ Rg (kf S 6) 0 10
/-- what a chain of so many steps can make -/
def pw : Nat → Int
  | 0 => 1
  | k + 1 => 20 * pw k
def bn : Nat → Int
  | 0 => 1000
  | k + 1 => 20 * bn k + 41000 * pw k
theorem pw_le {k : Nat} (h : k ≤ 5) : 1 ≤ pw k ∧ pw k ≤ 3200000 := by
  have z : k = 0 ∨ k = 1 ∨ k = 2 ∨ k = 3 ∨ k = 4 ∨ k = 5 := by omega
  rcases z with rfl | rfl | rfl | rfl | rfl | rfl <;> decide
theorem bn_le {k : Nat} (h : k ≤ 5) : 1000 ≤ bn k ∧ bn k ≤ 36000000000 := by
  have z : k = 0 ∨ k = 1 ∨ k = 2 ∨ k = 3 ∨ k = 4 ∨ k = 5 := by omega
  rcases z with rfl | rfl | rfl | rfl | rfl | rfl <;> decide
abbrev Ab (z b : Int) : Prop := -b ≤ z ∧ z ≤ b
def CIv (d : Dr) (k : Nat) : Prop := (0 < iP d ∧ iP d ≤ pw k) ∧ (0 < iS d ∧ iS d ≤ pw k) ∧ (Ab (iH d) (bn k) ∧ Ab (iG d) (bn k)) ∧ (∀ i, i < rn d → Ab (iX d i) (bn k) ∧ Ab (iY d i) (bn k)) ∧ rn d ≤ 20 ∧ (rsx d = 1 ∨ rsx d = -1) ∧ (rsy d = 1 ∨ rsy d = -1)
/-- its lines -/
def LIv (d : Dr) : Prop := (∀ i, i < rn d → rl d i = -1 ∨ Rg (rl d i) 0 9) ∧ dW d
def Par (S : Dk) (K : Nat → Nat) (j : Nat) : Prop := (rpa (kdr S j) = -1 ∧ K j = 0) ∨ ∃ q, q < j ∧ rpa (kdr S j) = nI q ∧ K j = K q + 1 ∧ rn (kdr S j) = rn (kdr S q)
def Rel (f : Nat → Int64) (S : Dk) : Prop := PH f S ∧ RH S ∧ kn S ≤ 6 ∧ (∀ j, j < kn S → PD f j (kdr S j) ∧ LIv (kdr S j)) ∧ ∃ K : Nat → Nat, ∀ j, j < kn S → CIv (kdr S j) (K j) ∧ Par S K j
theorem Rel.h {f : Nat → Int64} {S : Dk} (g : Rel f S) : PH f S := g.1
theorem Rel.r {f : Nat → Int64} {S : Dk} (g : Rel f S) : RH S := g.2.1
theorem Rel.n6 {f : Nat → Int64} {S : Dk} (g : Rel f S) : kn S ≤ 6 := g.2.2.1
theorem Rel.d {f : Nat → Int64} {S : Dk} (g : Rel f S) (j : Nat) (hj : j < kn S) : PD f j (kdr S j) := (g.2.2.2.1 j hj).1
theorem Rel.l {f : Nat → Int64} {S : Dk} (g : Rel f S) (j : Nat) (hj : j < kn S) : LIv (kdr S j) := (g.2.2.2.1 j hj).2
theorem Par.le {S : Dk} {K : Nat → Nat} {n : Nat} (h : ∀ j, j < n → Par S K j) : ∀ j, j < n → K j ≤ j := by
  intro j
  induction j using Nat.strongRecOn with
  | _ j ih =>
    intro hj
    rcases h j hj with ⟨-, z⟩ | ⟨q, hq, -, z, -⟩
    · omega
    · have := ih q hq (by omega); omega
theorem Rel.K {f : Nat → Int64} {S : Dk} (g : Rel f S) : ∃ K : Nat → Nat, ∀ j, j < kn S → CIv (kdr S j) (K j) ∧ Par S K j ∧ K j ≤ j := by
  obtain ⟨K, hK⟩ := g.2.2.2.2
  have z := Par.le (n := kn S) (fun j hj => (hK j hj).2)
  exact ⟨K, fun j hj => ⟨(hK j hj).1, (hK j hj).2, z j hj⟩⟩
theorem Rel.c {f : Nat → Int64} {S : Dk} (g : Rel f S) (j : Nat) (hj : j < kn S) : ∃ k, k ≤ 5 ∧ CIv (kdr S j) k := by
  obtain ⟨K, hK⟩ := g.K
  have := (hK j hj).2.2
  have := g.n6
  exact ⟨K j, by omega, (hK j hj).1⟩
theorem Rel.w {f : Nat → Int64} {S : Dk} (g : Rel f S) : PWf f (kn S) (fun j => rn (kdr S j)) := ⟨g.h.2.2.2.2.2, g.n6, fun j hj => by
  obtain ⟨k, -, c⟩ := g.c j hj
  exact ⟨(g.d j hj).1.1, c.2.2.2.2.1⟩⟩
theorem i64_32 (x : Int32) : x.toInt64.toInt32 = x := Int32.toInt32_toInt64 x
theorem Rel.par {f : Nat → Int64} {S : Dk} (g : Rel f S) : ParOK f (kn S) := fun j hj => by
  obtain ⟨K, hK⟩ := g.K
  rw [(g.d j hj).1.2.1, i64_32]
  rcases (hK j hj).2.1 with ⟨z, -⟩ | ⟨q, hq, z, -⟩
  · exact Or.inl z
  · exact Or.inr ⟨q, hq, z⟩
theorem Rel.s8 {f : Nat → Int64} {S : Dk} (g : Rel f S) : ¬ f 8 = 0 := by
  have z := g.r.2.1.2.2.2.2
  rw [g.h.2.1.2.2.2.2, i32_J]
  intro q
  have := (J_eq (b := 0) ⟨by omega, by omega⟩ (by decide)).mp q
  omega
/-! lengths -/
theorem Bd_of {z b : Int} (h : Ab z b) (hb : b ≤ 1000000000000000) : Bd z := by
  have := h.1; have := h.2
  constructor <;> omega
theorem LN_nn {n d : Int} (h : 0 < d) (hn : 0 ≤ n) : 0 ≤ LN n d := by
  obtain ⟨m, m0, e1, -, -⟩ := lq_m n h
  rcases Int.lt_or_le (LN n d) 0 with z | z
  · exfalso
    have := Int.mul_lt_mul_of_pos_right z m0
    rw [← e1, Int.zero_mul] at this; omega
  · exact z
theorem len_ok {f : Nat → Int64} {d k : Nat} {x0 x1 y0 y1 p : Int} (h1 : f (ceC d k + 0) = J (LN x1 p)) (h2 : f (ceC d k + 1) = J (LD x1 p)) (h3 : f (ceC d k + 2) = J (LN y1 p)) (h4 : f (ceC d k + 3) = J (LD y1 p)) (h5 : f (ceC d (k - 1) + 0) = J (LN x0 p)) (h6 : f (ceC d (k - 1) + 1) = J (LD x0 p)) (h7 : f (ceC d (k - 1) + 2) = J (LN y0 p)) (h8 : f (ceC d (k - 1) + 3) = J (LD y0 p)) (hp : 0 < p) (bp : p ≤ 1000000000000000) (b1 : Ab x0 1000000000000000) (b2 : Ab x1 1000000000000000) (b3 : Ab y0 1000000000000000) (b4 : Ab y1 1000000000000000) : LnOK f d k ∧ leN f d k / leD f d k = J ((((x1 - x0).natAbs : Int) + ((y1 - y0).natAbs : Int)) / p) := by
  have m1 : (-1 : Int64) = J (-1) := by decide
  have p1 : (1 : Int64) = J 1 := by decide
  have bP : Bd p := ⟨by omega, by omega⟩
  obtain ⟨⟨a1, a2⟩, a3⟩ := PL (x := x1) (y := x0) (-1) hp bP ⟨by omega, by omega⟩
  obtain ⟨⟨c1, c2⟩, c3⟩ := PL (x := y1) (y := y0) (-1) hp bP ⟨by omega, by omega⟩
  have ex : x1 + -1 * x0 = x1 - x0 := by omega
  have ey : y1 + -1 * y0 = y1 - y0 := by omega
  rw [ex] at a1 a2
  rw [ey] at c1 c2
  have q0 : lqN f d k 0 = J (LN (x1 - x0) p) ∧ lqD f d k 0 = J (LD (x1 - x0) p) := by
    unfold lqN lqD
    rw [h1, h2, h5, h6, m1]
    exact ⟨a1, a2⟩
  have q2 : lqN f d k 2 = J (LN (y1 - y0) p) ∧ lqD f d k 2 = J (LD (y1 - y0) p) := by
    unfold lqN lqD
    rw [h3, h4, h7, h8, m1]
    exact ⟨c1, c2⟩
  have ax := lq_abs (n := x1 - x0) hp
  have ay := lq_abs (n := y1 - y0) hp
  have sx : sz (lqN f d k 0) = J (LN ((x1 - x0).natAbs : Int) p) := by
    rw [q0.1, sz_J (Bd_N hp ⟨by omega, by omega⟩), J_lN, ax.1]
  have sy : sz (lqN f d k 2) = J (LN ((y1 - y0).natAbs : Int) p) := by
    rw [q2.1, sz_J (Bd_N hp ⟨by omega, by omega⟩), J_lN, ay.1]
  obtain ⟨⟨s1, s2⟩, s3⟩ := PL (x := ((x1 - x0).natAbs : Int)) (y := ((y1 - y0).natAbs : Int)) 1 hp bP ⟨by omega, by omega⟩
  rw [Int.one_mul] at s1 s2
  have eN : leN f d k = J (LN (((x1 - x0).natAbs : Int) + ((y1 - y0).natAbs : Int)) p) := by
    unfold leN
    rw [sx, sy, q0.2, q2.2, ax.2, ay.2, p1]
    exact s1
  have eD : leD f d k = J (LD (((x1 - x0).natAbs : Int) + ((y1 - y0).natAbs : Int)) p) := by
    unfold leD
    rw [sx, sy, q0.2, q2.2, ax.2, ay.2, p1]
    exact s2
  generalize hw : ((x1 - x0).natAbs : Int) + ((y1 - y0).natAbs : Int) = w at *
  have w0 : 0 ≤ w := by omega
  have bw : Bd w := ⟨by omega, by omega⟩
  have d0 := LD_pos (n := w) hp
  have bD := Bd_D (n := w) hp bP
  refine ⟨⟨?_, ?_, ?_, ?_⟩, ?_⟩
  · rw [h2, h6]; exact a3
  · rw [h4, h8]; exact c3
  · rw [q0.2, q2.2, ax.2, ay.2]; exact s3
  · rw [eD]; exact fun z => by have := (J_eq (b := 0) bD (by decide)).mp z; omega
  · rw [eN, eD, J_div (Bd_N hp bw) bD d0 (Or.inl (LN_nn hp w0)), lq_div hp]
/-- the cells of two points in a row, of a drawing -/
theorem PP.len {f : Nat → Int64} {j i : Nat} {d : Dr} (h : PP f (ceC j i) d i) (h0 : PP f (ceC j (i - 1)) d (i - 1)) (hp : 0 < iP d) (bp : iP d ≤ 1000000000000000) (b1 : Ab (iX d (i - 1)) 1000000000000000) (b2 : Ab (iX d i) 1000000000000000) (b3 : Ab (iY d (i - 1)) 1000000000000000) (b4 : Ab (iY d i) 1000000000000000) : LnOK f j i ∧ leN f j i / leD f j i = J ((((iX d i - iX d (i - 1)).natAbs : Int) + ((iY d i - iY d (i - 1)).natAbs : Int)) / iP d) :=
  len_ok h.1.1 h.1.2.1 h.1.2.2.1 h.1.2.2.2 h0.1.1 h0.1.2.1 h0.1.2.2.1 h0.1.2.2.2 hp bp b1 b2 b3 b4
theorem jin20 {n j : Nat} (hn : n ≤ 20) (hj : j < n) : ¬ nI j < 0 ∧ ¬ nI n ≤ nI j := ⟨nI_pos (by omega), by rw [n20 hn (by omega)]; omega⟩
theorem vX_n {d : Dr} {i : Nat} (h : i < rn d) (h20 : rn d ≤ 20) : vX d (nI i) = rX d i ∧ vY d (nI i) = rY d i ∧ vL d (nI i) = rl d i := by
  have c := jin20 h20 h
  have e : (nI i).toNatClampNeg = i := nI_clamp (by omega)
  unfold vX vY vL
  rw [if_pos c, if_pos c, if_pos c, e]
  exact ⟨rfl, rfl, rfl⟩
/-- the class's length, in whole numbers -/
theorem vLen_n {d : Dr} {i : Nat} (hi : 1 ≤ i) (h : i < rn d) (h20 : rn d ≤ 20) (hp : 0 < iP d) (bp : iP d ≤ 1000000000000000) (b1 : Ab (iX d (i - 1)) 1000000000000000) (b2 : Ab (iX d i) 1000000000000000) (b3 : Ab (iY d (i - 1)) 1000000000000000) (b4 : Ab (iY d i) 1000000000000000) : vLen d (nI i) = (J ((((iX d i - iX d (i - 1)).natAbs : Int) + ((iY d i - iY d (i - 1)).natAbs : Int)) / iP d)).toInt32 := by
  have e : nI i - 1 = nI (i - 1) := pk_sub (a := i) (b := 1) hi
  unfold vLen
  rw [e, (vX_n h h20).1, (vX_n h h20).2.1, (vX_n (show i - 1 < rn d by omega) h20).1, (vX_n (show i - 1 < rn d by omega) h20).2.1]
  rw [show rX d i = J (iX d i) from J_of _, show rX d (i - 1) = J (iX d (i - 1)) from J_of _, show rY d i = J (iY d i) from J_of _, show rY d (i - 1) = J (iY d (i - 1)) from J_of _, show rpt d = J (iP d) from J_of _, J_sub, J_sub, absl_J ⟨by omega, by omega⟩, absl_J ⟨by omega, by omega⟩, J_lN, J_lN, J_add, quo_J ⟨by omega, by omega⟩ ⟨by omega, by omega⟩ hp (by omega)]
/-! on the board -/
theorem on_ok {f : Nat → Int64} {d k : Nat} {x y p w h : Int} (h1 : f (ceC d k + 0) = J (LN x p)) (h2 : f (ceC d k + 1) = J (LD x p)) (h3 : f (ceC d k + 2) = J (LN y p)) (h4 : f (ceC d k + 3) = J (LD y p)) (hw : f 6 = J w) (hh : f 7 = J h) (w0 : 0 ≤ w) (w1 : w ≤ 1000) (g0 : 0 ≤ h) (g1 : h ≤ 1000) (hp : 0 < p) (bp : p ≤ 1000000000000) (b1 : Ab x 1000000000000000) (b2 : Ab y 1000000000000000) : onP f d k = true ↔ ((0 ≤ x ∧ x ≤ w * p) ∧ 0 ≤ y ∧ y ≤ h * p) := by
  have bP : Bd p := ⟨by omega, by omega⟩
  have lo : ∀ {z : Int}, Ab z 1000000000000000 → (J (LN z p) < 0 ↔ z < 0) := fun {z} b => by
    have q := lq_gt (n := z) (k := 0) hp
    have r : J (LN z p) < 0 ↔ LN z p < 0 := J_lt (b := 0) (Bd_N hp (Bd_of b (by decide))) (by decide)
    rw [r]; omega
  have hi : ∀ {z u : Int}, Ab z 1000000000000000 → 0 ≤ u → u ≤ 1000 → (J u * J (LD z p) < J (LN z p) ↔ u * p < z) := fun {z u} b u0 u1 => by
    have q := lq_lt (n := z) (k := u) hp
    have dl := LD_le (n := z) hp
    have dp := LD_pos (n := z) hp
    have m1 := Int.mul_le_mul u1 (show LD z p ≤ 1000000000000 by omega) (by omega) (by omega)
    have m2 := Int.mul_nonneg u0 (show 0 ≤ LD z p by omega)
    rw [J_mul, J_lt ⟨by omega, by omega⟩ (Bd_N hp (Bd_of b (by decide))), q]
  unfold onP
  rw [show f (ceC d k) = J (LN x p) from h1, h2, h3, h4, hw, hh]
  have a1 := lo b1
  have a2 := hi (u := w) b1 w0 w1
  have a3 := lo b2
  have a4 := hi (u := h) b2 g0 g1
  simp only [Bool.and_eq_true, decide_eq_true_iff]
  rw [a1, a2, a3, a4]
  omega

