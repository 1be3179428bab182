/-! machine numbers as whole numbers -/
def J (z : Int) : Int64 := Int64.ofInt z
abbrev Bd (z : Int) : Prop := -4611686018427387904 ≤ z ∧ z ≤ 4611686018427387904
theorem J_add (a b : Int) : J a + J b = J (a + b) := (Int64.ofInt_add a b).symm
theorem J_mul (a b : Int) : J a * J b = J (a * b) := (Int64.ofInt_mul a b).symm
theorem J_neg (a : Int) : -J a = J (-a) := (Int64.ofInt_neg a).symm
theorem J_sub (a b : Int) : J a - J b = J (a - b) := (Int64.ofInt_sub a b).symm
theorem J_lN (n : Nat) : lN n = J n := rfl
theorem J_ti {z : Int} (h : Bd z) : (J z).toInt = z := Int64.toInt_ofInt_of_le (by have := h.1; omega) (by have := h.2; omega)
theorem J_lt {a b : Int} (ha : Bd a) (hb : Bd b) : J a < J b ↔ a < b := by rw [Int64.lt_iff_toInt_lt, J_ti ha, J_ti hb]
theorem J_le {a b : Int} (ha : Bd a) (hb : Bd b) : J a ≤ J b ↔ a ≤ b := by rw [Int64.le_iff_toInt_le, J_ti ha, J_ti hb]
theorem J_eq {a b : Int} (ha : Bd a) (hb : Bd b) : J a = J b ↔ a = b := by rw [← Int64.toInt_inj, J_ti ha, J_ti hb]
theorem J_nn {z : Int} (h : 0 ≤ z) : J z = lN z.toNat := by rw [J_lN, Int.toNat_of_nonneg h]
theorem J_of (x : Int64) : x = J x.toInt := (Int64.ofInt_toInt x).symm
theorem i32_J (x : Int32) : x.toInt64 = J x.toInt := by
  refine Int64.toInt_inj.mp ?_
  have h1 := Int32.le_toInt x
  have h2 := Int32.toInt_lt x
  rw [Int32.toInt_toInt64, J_ti ⟨by omega, by omega⟩]
theorem J_div {a b : Int} (ha : Bd a) (hb : Bd b) (h0 : 0 < b) (h : 0 ≤ a ∨ b ∣ a) : J a / J b = J (a / b) := by
  have hx : J a / J b = J (a.tdiv b) := by
    refine Int64.toInt_inj.mp ?_
    have hm : J a ≠ Int64.minValue := by
      intro z
      have z2 := congrArg Int64.toInt z
      rw [J_ti ha] at z2
      have z3 : (Int64.minValue).toInt = -9223372036854775808 := by decide
      have := ha.1; omega
    rw [Int64.toInt_div_of_ne_left _ _ hm, J_ti ha, J_ti hb, J_ti]
    have hn : (a.tdiv b).natAbs ≤ a.natAbs := by rw [Int.natAbs_tdiv]; exact Nat.div_le_self _ _
    have := ha.1; have := ha.2
    constructor <;> omega
  rw [hx]
  rcases h with h | h
  · rw [Int.tdiv_eq_ediv_of_nonneg h]
  · rw [Int.tdiv_eq_ediv_of_dvd h]
/-! the greatest common divisor -/
theorem eu_N : ∀ (b a : Nat), a < 2 ^ 63 → b < 2 ^ 63 → euF (lN a) (lN b) = lN (Nat.gcd a b) := by
  intro b
  induction b using Nat.strongRecOn with
  | _ b ih =>
    intro a ha hb
    by_cases h : b = 0
    · subst h
      rw [Nat.gcd_zero_right]
      exact euF_0 _
    · have hz : ¬ lN b = 0 := fun z => h ((pk_lEQ (a := b) (b := 0) hb (by decide)).mp z)
      have hm := Nat.mod_lt a (show 0 < b by omega)
      rw [euF_s hz, pk_lRem ha (by omega) hb, ih (a % b) hm b hb (by omega), Nat.gcd_comm, ← Nat.gcd_rec, Nat.gcd_comm]
theorem sz_J {z : Int} (h : Bd z) : sz (J z) = lN z.natAbs := by
  unfold sz
  have h0 : J z < 0 ↔ z < 0 := J_lt (b := 0) h (by decide)
  by_cases g : z < 0
  · rw [if_pos (h0.mpr g), J_neg, J_nn (by omega), show (-z).toNat = z.natAbs by omega]
  · rw [if_neg (fun q => g (h0.mp q)), J_nn (by omega), show z.toNat = z.natAbs by omega]
theorem dvs_J {n d : Int} (hn : Bd n) (hd : Bd d) : dvs (J n) (J d) = J (Int.gcd n d : Int) := by
  unfold dvs
  have := hn.1; have := hn.2; have := hd.1; have := hd.2
  rw [sz_J hn, sz_J hd, eu_N _ _ (by omega) (by omega)]
  rfl
def LN (n d : Int) : Int := n / (Int.gcd n d : Int)
def LD (n d : Int) : Int := d / (Int.gcd n d : Int)
theorem lq_m (n : Int) {d : Int} (h0 : 0 < d) : ∃ m : Int, 0 < m ∧ n = LN n d * m ∧ d = LD n d * m ∧ 0 < LD n d := by
  have hg : 0 < Int.gcd n d := Int.gcd_pos_of_ne_zero_right n (by omega)
  have e2 : LD n d * (Int.gcd n d : Int) = d := Int.ediv_mul_cancel (Int.gcd_dvd_right n d)
  refine ⟨(Int.gcd n d : Int), by omega, (Int.ediv_mul_cancel (Int.gcd_dvd_left n d)).symm, e2.symm, ?_⟩
  rcases Int.lt_or_le 0 (LD n d) with z | z
  · exact z
  · exfalso
    have := Int.mul_le_mul_of_nonneg_right z (show (0 : Int) ≤ (Int.gcd n d : Int) by omega)
    rw [Int.zero_mul, e2] at this; omega
theorem abs_m {z m : Int} (h : 0 < m) : z.natAbs ≤ (z * m).natAbs := by
  rw [Int.natAbs_mul]; exact Nat.le_mul_of_pos_right _ (by omega)
theorem Bd_m {z m : Int} (h : 0 < m) (hb : Bd (z * m)) : Bd z := by
  have := abs_m (z := z) h
  have := hb.1; have := hb.2
  constructor <;> omega
theorem Bd_N {n d : Int} (h0 : 0 < d) (hn : Bd n) : Bd (LN n d) := by
  obtain ⟨m, m0, e1, -, -⟩ := lq_m n h0
  rw [e1] at hn; exact Bd_m m0 hn
theorem Bd_D {n d : Int} (h0 : 0 < d) (hd : Bd d) : Bd (LD n d) := by
  obtain ⟨m, m0, -, e1, -⟩ := lq_m n h0
  have h2 : Bd (LD n d * m) := by rw [← e1]; exact hd
  exact Bd_m m0 h2
theorem LD_pos {n d : Int} (h0 : 0 < d) : 0 < LD n d := by
  obtain ⟨m, -, -, -, h⟩ := lq_m n h0; exact h
theorem LD_le {n d : Int} (h0 : 0 < d) : LD n d ≤ d := by
  obtain ⟨m, m0, -, e1, h⟩ := lq_m n h0
  have := Int.mul_le_mul_of_nonneg_left (show 1 ≤ m by omega) (show 0 ≤ LD n d by omega)
  rw [Int.mul_one, ← e1] at this; exact this
/-- the same ratio, the same lowest terms -/
theorem lq_s {n d m : Int} (m0 : 0 < m) : LN (n * m) (d * m) = LN n d ∧ LD (n * m) (d * m) = LD n d := by
  have e : ((Int.gcd (n * m) (d * m) : Nat) : Int) = (Int.gcd n d : Int) * m := by
    rw [Int.gcd_mul_right, Int.natCast_mul, Int.natAbs_of_nonneg (by omega)]
  unfold LN LD
  rw [e, Int.mul_ediv_mul_of_pos_left _ _ m0, Int.mul_ediv_mul_of_pos_left _ _ m0]
  exact ⟨rfl, rfl⟩
theorem lq_r {n d n2 d2 : Int} (h : 0 < d) (h2 : 0 < d2) (hx : n * d2 = n2 * d) : LN n d = LN n2 d2 ∧ LD n d = LD n2 d2 := by
  have a := lq_s (n := n) (d := d) h2
  have b := lq_s (n := n2) (d := d2) h
  rw [hx, Int.mul_comm d d2] at a
  exact ⟨a.1.symm.trans b.1, a.2.symm.trans b.2⟩
theorem lq_e {n d n2 d2 : Int} (h : 0 < d) (h2 : 0 < d2) : (LN n d = LN n2 d2 ∧ LD n d = LD n2 d2) ↔ n * d2 = n2 * d := by
  refine ⟨fun z => ?_, lq_r h h2⟩
  obtain ⟨m, m0, e1, e2, -⟩ := lq_m n h
  obtain ⟨m2, m20, e3, e4, -⟩ := lq_m n2 h2
  rw [z.1] at e1; rw [z.2] at e2
  have q1 : n * d2 = LN n2 d2 * m * (LD n2 d2 * m2) := by rw [← e1, ← e4]
  have q2 : n2 * d = LN n2 d2 * m2 * (LD n2 d2 * m) := by rw [← e3, ← e2]
  rw [q1, q2]
  ac_rfl
theorem lq_z {d : Int} (n : Int) (h : 0 < d) : LN (n * d) d = n ∧ LD (n * d) d = 1 := by
  have a := lq_s (n := n) (d := 1) h
  rw [Int.one_mul] at a
  have g : Int.gcd n 1 = 1 := by rw [Int.gcd_eq_natAbs_gcd_natAbs]; exact Nat.gcd_one_right _
  have b : LN n 1 = n ∧ LD n 1 = 1 := by unfold LN LD; rw [g]; exact ⟨Int.ediv_one n, rfl⟩
  exact ⟨a.1.trans b.1, a.2.trans b.2⟩
theorem lq_l {n d : Int} (h : 0 < d) : LN (LN n d) (LD n d) = LN n d ∧ LD (LN n d) (LD n d) = LD n d := by
  obtain ⟨m, m0, e1, e2, e3⟩ := lq_m n h
  have a := lq_s (n := LN n d) (d := LD n d) m0
  rw [← e1, ← e2] at a
  exact ⟨a.1.symm, a.2.symm⟩
theorem rd_J {n d : Int} (hn : Bd n) (hd : Bd d) (h0 : 0 < d) : rdN (J n) (J d) = J (LN n d) ∧ rdD (J n) (J d) = J (LD n d) := by
  have hg : 0 < Int.gcd n d := Int.gcd_pos_of_ne_zero_right n (by omega)
  have hl : (Int.gcd n d : Int) ≤ d := Int.le_of_dvd h0 (Int.gcd_dvd_right n d)
  have bg : Bd (Int.gcd n d : Int) := ⟨by omega, by have := hd.2; omega⟩
  have hz : ¬ J (Int.gcd n d : Int) = 0 := fun z => by have := (J_eq (b := 0) bg (by decide)).mp z; omega
  unfold rdN rdD
  rw [dvs_J hn hd, if_neg hz, if_neg hz, J_div hn bg (by omega) (Or.inr (Int.gcd_dvd_left n d)), J_div hd bg (by omega) (Or.inr (Int.gcd_dvd_right n d))]
  exact ⟨rfl, rfl⟩
/-! the class's own way to the lowest terms -/
theorem gd_N : ∀ (j k a b : Nat), b < 2 ^ j → 2 * j + 1 ≤ k → a < 2 ^ 63 → b < 2 ^ 63 → gd k (lN a) (lN b) = lN (Nat.gcd a b) := by
  have z0 : ∀ (k a : Nat), 1 ≤ k → gd k (lN a) (lN 0) = lN (Nat.gcd a 0) := by
    intro k a hk
    obtain ⟨q, rfl⟩ : ∃ q, k = q + 1 := ⟨k - 1, by omega⟩
    rw [Nat.gcd_zero_right]
    unfold gd
    rw [if_pos (show lN 0 ≤ 0 by decide)]
  have st : ∀ (k a b : Nat), 0 < b → a < 2 ^ 63 → b < 2 ^ 63 → gd (k + 1) (lN a) (lN b) = gd k (lN b) (lN (a % b)) := by
    intro k a b h0 ha hb
    conv => lhs; unfold gd
    rw [if_neg (fun z => by have := (pk_lLE (a := b) (b := 0) hb (by decide)).mp z; omega), pk_lRem ha h0 hb]
  have gc : ∀ a b : Nat, Nat.gcd a b = Nat.gcd b (a % b) := fun a b => by rw [Nat.gcd_comm a b, Nat.gcd_rec b a, Nat.gcd_comm]
  intro j
  induction j with
  | zero =>
    intro k a b h1 h2 ha hb
    have : b = 0 := by rw [Nat.pow_zero] at h1; omega
    subst this
    exact z0 k a (by omega)
  | succ j ih =>
    intro k a b h1 h2 ha hb
    by_cases e : b = 0
    · subst e; exact z0 k a (by omega)
    · obtain ⟨q, rfl⟩ : ∃ q, k = q + 2 := ⟨k - 2, by omega⟩
      have hr := Nat.mod_lt a (show 0 < b by omega)
      rw [st (q + 1) a b (by omega) ha hb, gc a b]
      by_cases e2 : a % b = 0
      · rw [e2]; exact z0 _ _ (by omega)
      · rw [st q b (a % b) (by omega) hb (by omega), gc b (a % b)]
        refine ih q (a % b) (b % (a % b)) ?_ (by omega) (by omega) (by have := Nat.mod_lt b (show 0 < a % b by omega); omega)
        have d1 := Nat.div_add_mod b (a % b)
        have d2 : 1 ≤ b / (a % b) := (Nat.le_div_iff_mul_le (by omega)).mpr (by omega)
        have d3 := Nat.mod_lt b (show 0 < a % b by omega)
        have d4 := Nat.mul_le_mul_left (a % b) d2
        rw [Nat.pow_succ] at h1
        omega
theorem absl_J {z : Int} (h : Bd z) : absl (J z) = lN z.natAbs := by
  unfold absl
  have h0 : 0 < J z ↔ 0 < z := J_lt (a := 0) (by decide) h
  by_cases g : 0 < z
  · rw [if_pos (h0.mpr g), J_nn (by omega), show z.toNat = z.natAbs by omega]
  · rw [if_neg (fun q => g (h0.mp q)), J_neg, J_nn (by omega), show (-z).toNat = z.natAbs by omega]
theorem low_J {n d : Int} (hn : Bd n) (h0 : 0 < d) (hd : d < 281474976710656) : lowL (J n) (J d) 0 = J (LN n d) ∧ lowL (J n) (J d) 1 = J (LD n d) := by
  have bd : Bd d := ⟨by omega, by omega⟩
  have hg : 0 < Int.gcd n d := Int.gcd_pos_of_ne_zero_right n (by omega)
  have hl : (Int.gcd n d : Int) ≤ d := Int.le_of_dvd h0 (Int.gcd_dvd_right n d)
  have bg : Bd (Int.gcd n d : Int) := ⟨by omega, by omega⟩
  have eg : gd 100 (absl (J n)) (J d) = J (Int.gcd n d : Int) := by
    have := hn.1; have := hn.2
    rw [absl_J hn, J_nn (show 0 ≤ d by omega), gd_N 48 100 _ _ (show d.toNat < 281474976710656 by omega) (by decide) (by omega) (by omega), show d.toNat = d.natAbs by omega]
    rfl
  have h1 : J (Int.gcd n d : Int) ≤ 1 ↔ (Int.gcd n d : Int) ≤ 1 := J_le (b := 1) bg (by decide)
  unfold lowL
  rw [eg]
  by_cases e : (Int.gcd n d : Int) ≤ 1
  · rw [if_pos (h1.mpr e), if_pos (h1.mpr e)]
    have e1 : (Int.gcd n d : Int) = 1 := by omega
    unfold LN LD
    rw [e1, Int.ediv_one, Int.ediv_one]
    exact ⟨rfl, rfl⟩
  · rw [if_neg (fun z => e (h1.mp z)), if_neg (fun z => e (h1.mp z))]
    exact ⟨J_div hn bg (by omega) (Or.inr (Int.gcd_dvd_left n d)), J_div bd bg (by omega) (Or.inr (Int.gcd_dvd_right n d))⟩
/-! sums of fractions over one denominator -/
theorem lcm_m {d d2 p : Nat} (hd : 0 < d) (h1 : d ∣ p) (h2 : d2 ∣ p) : ∃ m, p = d / Nat.gcd d d2 * d2 * m ∧ d / Nat.gcd d d2 * d2 = d * (d2 / Nat.gcd d d2) := by
  have hg : 0 < Nat.gcd d d2 := Nat.gcd_pos_of_pos_left d2 hd
  have e1 : d / Nat.gcd d d2 * d2 = d * (d2 / Nat.gcd d d2) := by
    rw [Nat.div_mul_right_comm (Nat.gcd_dvd_left d d2), Nat.mul_div_assoc _ (Nat.gcd_dvd_right d d2)]
  obtain ⟨m, hm⟩ := Nat.lcm_dvd h1 h2
  refine ⟨m, ?_, e1⟩
  rw [hm, Nat.div_mul_right_comm (Nat.gcd_dvd_left d d2)]
  rfl
theorem PLm {x y p : Int} (hp : 0 < p) : ∃ m g e e2 : Int, 0 < m ∧ 0 < g ∧ (g : Int) = (Int.gcd (LD x p) (LD y p) : Int) ∧ LD x p / g = e ∧ LD y p / g = e2 ∧ p = e * LD y p * m ∧ x = LN x p * e2 * m ∧ y = LN y p * e * m ∧ 0 < e ∧ 0 < e2 := by
  obtain ⟨m1, m10, a1, a2, a3⟩ := lq_m x hp
  obtain ⟨m2, m20, b1, b2, b3⟩ := lq_m y hp
  generalize LN x p = n at *
  generalize LN y p = n2 at *
  generalize LD x p = d at *
  generalize LD y p = d2 at *
  obtain ⟨D, rfl⟩ : ∃ D : Nat, d = D := ⟨d.toNat, by omega⟩
  obtain ⟨D2, rfl⟩ : ∃ D2 : Nat, d2 = D2 := ⟨d2.toNat, by omega⟩
  obtain ⟨M1, rfl⟩ : ∃ M1 : Nat, m1 = M1 := ⟨m1.toNat, by omega⟩
  obtain ⟨M2, rfl⟩ : ∃ M2 : Nat, m2 = M2 := ⟨m2.toNat, by omega⟩
  obtain ⟨P, rfl⟩ : ∃ P : Nat, p = P := ⟨p.toNat, by omega⟩
  have q1 : P = D * M1 := by have z := a2; rw [← Int.natCast_mul] at z; exact Int.ofNat.inj z
  have q2 : P = D2 * M2 := by have z := b2; rw [← Int.natCast_mul] at z; exact Int.ofNat.inj z
  have hD : 0 < D := by omega
  have hD2 : 0 < D2 := by omega
  obtain ⟨m, hm, hc⟩ := lcm_m hD ⟨M1, q1⟩ ⟨M2, q2⟩
  have hg : 0 < Nat.gcd D D2 := Nat.gcd_pos_of_pos_left D2 hD
  have hm0 : 0 < m := by
    rcases Nat.eq_zero_or_pos m with z | z
    · subst z; rw [Nat.mul_zero] at hm; omega
    · exact z
  have e1 : M1 = D2 / Nat.gcd D D2 * m := by
    refine Nat.eq_of_mul_eq_mul_left hD ?_
    rw [← q1, hm, hc, Nat.mul_assoc]
  have e2 : M2 = D / Nat.gcd D D2 * m := by
    refine Nat.eq_of_mul_eq_mul_left hD2 ?_
    rw [← q2, hm, Nat.mul_comm (D / Nat.gcd D D2) D2, Nat.mul_assoc]
  have g1 : 0 < D / Nat.gcd D D2 := Nat.div_pos (Nat.le_of_dvd hD (Nat.gcd_dvd_left D D2)) hg
  have g2 : 0 < D2 / Nat.gcd D D2 := Nat.div_pos (Nat.le_of_dvd hD2 (Nat.gcd_dvd_right D D2)) hg
  refine ⟨m, (Nat.gcd D D2 : Nat), (D / Nat.gcd D D2 : Nat), (D2 / Nat.gcd D D2 : Nat), by omega, by omega, rfl, Int.natCast_ediv D (Nat.gcd D D2) |>.symm, Int.natCast_ediv D2 (Nat.gcd D D2) |>.symm, ?_, ?_, ?_, by omega, by omega⟩
  · conv => lhs; rw [hm]
    rw [Int.natCast_mul, Int.natCast_mul]
  · conv => lhs; rw [a1, e1]
    rw [Int.natCast_mul, Int.mul_assoc]
  · conv => lhs; rw [b1, e2]
    rw [Int.natCast_mul, Int.mul_assoc]
/-- one fraction plus so many times another one -/
theorem PL {x y p : Int} (t : Int) (hp : 0 < p) (bp : Bd p) (bz : Bd (x + t * y)) : (rdN (plN (J (LN x p)) (J (LD x p)) (J t) (J (LN y p)) (J (LD y p))) (plD (J (LD x p)) (J (LD y p))) = J (LN (x + t * y) p) ∧ rdD (plN (J (LN x p)) (J (LD x p)) (J t) (J (LN y p)) (J (LD y p))) (plD (J (LD x p)) (J (LD y p))) = J (LD (x + t * y) p)) ∧ ¬ dvs (J (LD x p)) (J (LD y p)) = 0 := by
  obtain ⟨m, g, e1, e2, m0, g0, hg, h1, h2, hP, hX, hY, e10, e20⟩ := PLm (x := x) (y := y) hp
  have bd := Bd_D (n := x) hp bp
  have bd2 := Bd_D (n := y) hp bp
  have d0 := LD_pos (n := x) hp
  have d20 := LD_pos (n := y) hp
  have hgd : (Int.gcd (LD x p) (LD y p) : Int) ≤ LD x p := Int.le_of_dvd d0 (Int.gcd_dvd_left _ _)
  have bg : Bd g := by rw [hg]; exact ⟨by omega, by have := bd.2; omega⟩
  have dv : dvs (J (LD x p)) (J (LD y p)) = J g := by rw [dvs_J bd bd2, hg]
  have q1 : J (LD x p) / J g = J e1 := by rw [J_div bd bg g0 (Or.inl (by omega)), h1]
  have q2 : J (LD y p) / J g = J e2 := by rw [J_div bd2 bg g0 (Or.inl (by omega)), h2]
  have eN : plN (J (LN x p)) (J (LD x p)) (J t) (J (LN y p)) (J (LD y p)) = J (LN x p * e2 + t * LN y p * e1) := by
    unfold plN; rw [dv, q1, q2, J_mul, J_mul, J_mul, J_add]
  have eD : plD (J (LD x p)) (J (LD y p)) = J (e1 * LD y p) := by
    unfold plD; rw [dv, q1, J_mul]
  have zN : (LN x p * e2 + t * LN y p * e1) * m = x + t * y := by
    conv => rhs; rw [hX, hY]
    rw [Int.add_mul]
    congr 1
    ac_rfl
  have bN : Bd (LN x p * e2 + t * LN y p * e1) := Bd_m m0 (by rw [zN]; exact bz)
  have bD : Bd (e1 * LD y p) := Bd_m m0 (by rw [← hP]; exact bp)
  have pD : 0 < e1 * LD y p := Int.mul_pos e10 d20
  have r := rd_J bN bD pD
  have s := lq_s (n := LN x p * e2 + t * LN y p * e1) (d := e1 * LD y p) m0
  rw [zN, ← hP] at s
  rw [eN, eD, r.1, r.2, s.1, s.2]
  refine ⟨⟨rfl, rfl⟩, ?_⟩
  rw [dv]
  exact fun z => by have := (J_eq (b := 0) bg (by decide)).mp z; omega
/-- lowest terms keep signs, and comparisons with whole multiples -/
theorem lq_lt {n d k : Int} (h : 0 < d) : k * LD n d < LN n d ↔ k * d < n := by
  obtain ⟨m, m0, e1, e2, e3⟩ := lq_m n h
  constructor
  · intro z
    have := Int.mul_lt_mul_of_pos_right z m0
    rw [Int.mul_assoc, ← e2, ← e1] at this; exact this
  · intro z
    rcases Int.lt_or_le (k * LD n d) (LN n d) with q | q
    · exact q
    · exfalso
      have := Int.mul_le_mul_of_nonneg_right q (show 0 ≤ m by omega)
      rw [Int.mul_assoc, ← e2, ← e1] at this; omega
theorem lq_gt {n d k : Int} (h : 0 < d) : k * LD n d < -LN n d ↔ k * d < -n := by
  obtain ⟨m, m0, e1, e2, e3⟩ := lq_m n h
  have en : -n = -LN n d * m := by rw [Int.neg_mul, ← e1]
  constructor
  · intro z
    have := Int.mul_lt_mul_of_pos_right z m0
    rw [Int.mul_assoc, ← e2, ← en] at this; exact this
  · intro z
    rcases Int.lt_or_le (k * LD n d) (-LN n d) with q | q
    · exact q
    · exfalso
      have := Int.mul_le_mul_of_nonneg_right q (show 0 ≤ m by omega)
      rw [Int.mul_assoc, ← e2, ← en] at this; omega
theorem lq_abs {n d : Int} (h : 0 < d) : ((LN n d).natAbs : Int) = LN (n.natAbs : Int) d ∧ LD n d = LD (n.natAbs : Int) d := by
  have hg : Int.gcd (n.natAbs : Int) d = Int.gcd n d := by rw [Int.gcd_eq_natAbs_gcd_natAbs, Int.gcd_eq_natAbs_gcd_natAbs, Int.natAbs_natCast]
  obtain ⟨m, m0, e1, e2, e3⟩ := lq_m n h
  have g0 : 0 < Int.gcd n d := Int.gcd_pos_of_ne_zero_right n (by omega)
  refine ⟨?_, by unfold LD; rw [hg]⟩
  have h1 : LN (n.natAbs : Int) d * (Int.gcd n d : Int) = n.natAbs := by
    unfold LN; rw [hg]; exact Int.ediv_mul_cancel (Int.dvd_natAbs.mpr (Int.gcd_dvd_left n d))
  have h2 : LN n d * (Int.gcd n d : Int) = n := Int.ediv_mul_cancel (Int.gcd_dvd_left n d)
  have h3 : ((LN n d).natAbs : Int) * (Int.gcd n d : Int) = n.natAbs := by
    conv => rhs; rw [← h2, Int.natAbs_mul]
    rw [Int.natCast_mul, Int.natAbs_natCast]
  exact Int.eq_of_mul_eq_mul_right (show (Int.gcd n d : Int) ≠ 0 by omega) (h3.trans h1.symm)
theorem lq_div {n d : Int} (h : 0 < d) : LN n d / LD n d = n / d := by
  obtain ⟨m, m0, e1, e2, e3⟩ := lq_m n h
  have e : n / d = LN n d * m / (LD n d * m) := by rw [← e1, ← e2]
  rw [e, Int.mul_ediv_mul_of_pos_left _ _ m0]
theorem quo_J {n d : Int} (hn : Bd n) (hd : Bd d) (h0 : 0 < d) (h : 0 ≤ n) : quo (J n) (J d) = J (n / d) := by
  unfold quo
  rw [if_neg (fun z => by have := (J_le (b := 0) hd (by decide)).mp z; omega), J_div hn hd h0 (Or.inl h)]

