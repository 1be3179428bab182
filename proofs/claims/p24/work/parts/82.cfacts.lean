/-! what the law asks of a copy -/
theorem rsn_cases {S : Dk} {num : Int32} {d : Dr} (h : ¬ rsn S num d = 0) : (rsn S num d = 1 ∧ rn d = 0) ∨ (rsn S num d = 2 ∧ ¬ rn d = 0 ∧ ¬ sWorn S ≤ 9) ∨ (rsn S num d = 3 ∧ ¬ rn d = 0 ∧ sWorn S ≤ 9 ∧ ¬ kn S < 6) ∨ (rsn S num d = 4 ∧ ¬ rn d = 0 ∧ sWorn S ≤ 9) := by
  unfold rsn at h ⊢
  by_cases e1 : rn d < 1
  · exact Or.inl ⟨if_pos e1, by omega⟩
  · have e1' : ¬ rn d = 0 := by omega
    rw [if_neg e1] at h ⊢
    by_cases e2 : sWorn S ≤ 9
    · rw [if_neg (show ¬ ¬ sWorn S ≤ 9 from fun z => z e2)] at h ⊢
      by_cases e3 : kn S < 6
      · rw [if_neg (show ¬ ¬ kn S < 6 from fun z => z e3)] at h ⊢
        by_cases e4 : tooF (trD S num d) = true
        · exact Or.inr (Or.inr (Or.inr ⟨if_pos e4, e1', e2⟩))
        · rw [if_neg e4] at h; exact absurd rfl h
      · exact Or.inr (Or.inr (Or.inl ⟨if_pos e3, e1', e2, e3⟩))
    · exact Or.inr (Or.inl ⟨if_pos e2, e1', e2⟩)
theorem L_mul (n d : Int) : LN n d * (Int.gcd n d : Int) = n ∧ LD n d * (Int.gcd n d : Int) = d := ⟨Int.ediv_mul_cancel (Int.gcd_dvd_left n d), Int.ediv_mul_cancel (Int.gcd_dvd_right n d)⟩
theorem rat_c {s p a b : Int} (hp : 0 < p) (hb : 0 < b) : LN (s * a) (p * b) * (Int.gcd (LN s p * a) (LD s p * b) : Int) = LN s p * a ∧ LD (s * a) (p * b) * (Int.gcd (LN s p * a) (LD s p * b) : Int) = LD s p * b := by
  obtain ⟨m, m0, e1, e2, e3⟩ := lq_m s hp
  have g : Int.gcd (s * a) (p * b) = m.natAbs * Int.gcd (LN s p * a) (LD s p * b) := by
    have key : ∀ x y : Int, s = x * m → p = y * m → Int.gcd (s * a) (p * b) = m.natAbs * Int.gcd (x * a) (y * b) := fun x y h1 h2 => by
      rw [h1, h2, show x * m * a = m * (x * a) by ac_rfl, show y * m * b = m * (y * b) by ac_rfl, Int.gcd_mul_left]
    exact key _ _ e1 e2
  have gm : (Int.gcd (s * a) (p * b) : Int) = m * (Int.gcd (LN s p * a) (LD s p * b) : Int) := by
    rw [g]; simp [Int.natAbs_of_nonneg (show 0 ≤ m by omega)]
  have q := L_mul (s * a) (p * b)
  rw [gm] at q
  constructor
  · refine Int.eq_of_mul_eq_mul_right (show m ≠ 0 by omega) ?_
    rw [show LN s p * a * m = LN s p * m * a by ac_rfl, ← e1]
    conv => rhs; rw [← q.1]
    ac_rfl
  · refine Int.eq_of_mul_eq_mul_right (show m ≠ 0 by omega) ?_
    rw [show LD s p * b * m = LD s p * m * b by ac_rfl, ← e2]
    conv => rhs; rw [← q.2]
    ac_rfl
theorem ax_b {j : Bool} {t X Y : Int} (t0 : 0 ≤ t) : (j = false → axR j t X Y = X) ∧ axR j t X Y - X ≤ t ∧ X - axR j t X Y ≤ t := by
  unfold axR
  cases j
  · rw [if_neg (show ¬ false = true by decide)]
    exact ⟨fun _ => rfl, by omega, by omega⟩
  · rw [if_pos (show true = true from rfl)]
    refine ⟨fun h => absurd h (by decide), ?_⟩
    split
    · omega
    · split <;> omega
/-- how far a copy is from its aim, in the law's terms -/
theorem far_ok {X P pv b s a X' pl x m its den : Int} (hP : 0 < P) (hb : 0 < b) (hx : x = LN X P) (hm : m = LD X P) (hi : its = LN X' (P * b)) (hd : den = LD X' (P * b)) (p0 : 0 ≤ pl)
    (h1 : X' - axX pv P b s a X ≤ pl * (P * b)) (h2 : axX pv P b s a X - X' ≤ pl * (P * b)) :
    (0 < (Int.gcd den (m * b) : Int) ∧ 0 < den ∧ 0 < m * b) ∧ (X' = axX pv P b s a X → its * (m * b / (Int.gcd den (m * b) : Int)) - axX pv m b s a x * (den / (Int.gcd den (m * b) : Int)) = 0) ∧
    its * (m * b / (Int.gcd den (m * b) : Int)) - axX pv m b s a x * (den / (Int.gcd den (m * b) : Int)) ≤ pl * (den / (Int.gcd den (m * b) : Int)) * (m * b) ∧ -(its * (m * b / (Int.gcd den (m * b) : Int)) - axX pv m b s a x * (den / (Int.gcd den (m * b) : Int))) ≤ pl * (den / (Int.gcd den (m * b) : Int)) * (m * b) := by
  have hPb : 0 < P * b := Int.mul_pos hP hb
  obtain ⟨g, g0, e1, e2, e3⟩ := lq_m X hP
  obtain ⟨h, h0, f1, f2, f3⟩ := lq_m X' hPb
  rw [← hx] at e1
  rw [← hm] at e2 e3
  rw [← hi] at f1
  rw [← hd] at f2 f3
  have hby : 0 < m * b := Int.mul_pos e3 hb
  have hc : 0 < Int.gcd den (m * b) := Int.gcd_pos_of_ne_zero_right den (by omega)
  have hc' : 0 < (Int.gcd den (m * b) : Int) := by omega
  obtain ⟨d1, hd1⟩ := Int.gcd_dvd_left den (m * b)
  obtain ⟨b1, hb1⟩ := Int.gcd_dvd_right den (m * b)
  generalize (Int.gcd den (m * b) : Int) = c at *
  have q1 : den / c = d1 := by rw [hd1]; exact Int.mul_ediv_cancel_left _ (by omega)
  have q2 : m * b / c = b1 := by rw [hb1]; exact Int.mul_ediv_cancel_left _ (by omega)
  have b10 : 0 < b1 := by
    rw [hb1] at hby
    exact Int.pos_of_mul_pos_right hby (by omega)
  have eA : axX pv P b s a X = axX pv m b s a x * g := by
    rw [axX_m, ← e1, ← e2]
  rw [eA] at h1 h2 ⊢
  rw [q1, q2]
  have r1 : d1 * h = b1 * g := by
    refine Int.eq_of_mul_eq_mul_left (show c ≠ 0 by omega) ?_
    rw [← Int.mul_assoc, ← Int.mul_assoc, ← hd1, ← hb1, ← f2]
    conv => lhs; rw [e2]
    ac_rfl
  generalize axX pv m b s a x = A at *
  have r2 : (its * b1 - A * d1) * h = b1 * (X' - A * g) := by
    rw [Int.sub_mul, Int.mul_sub, show its * b1 * h = b1 * (its * h) by ac_rfl, ← f1, show A * d1 * h = A * (d1 * h) by ac_rfl, r1, show A * (b1 * g) = b1 * (A * g) by ac_rfl]
  have r3 : pl * d1 * (m * b) * h = b1 * (pl * (P * b)) := by
    rw [f2, hd1, hb1]; ac_rfl
  refine ⟨⟨hc', f3, hby⟩, fun e => ?_, ?_, ?_⟩
  · refine Int.eq_of_mul_eq_mul_right (show h ≠ 0 by omega) ?_
    rw [r2, e, Int.sub_self]; simp
  · refine Int.le_of_mul_le_mul_right ?_ h0
    rw [r2, r3]
    exact Int.mul_le_mul_of_nonneg_left h1 (by omega)
  · refine Int.le_of_mul_le_mul_right ?_ h0
    rw [Int.neg_mul, r2, r3, ← Int.mul_neg]
    exact Int.mul_le_mul_of_nonneg_left (by omega) (by omega)
