/-! remove -/
theorem mrP_1 {g : Nat → Int64} {x : Int64} {k : Nat} : ∀ j, k < j → mrP g x j (hdC k 1) = g (hdC k 1) - (if g (hdC k 1) ≤ x then 0 else 1)
  | 0, h => absurd h (Nat.not_lt_zero k)
  | j + 1, h => by
    unfold mrP
    by_cases e : k = j
    · subst e
      have z : mrP g x k (hdC k 1) = g (hdC k 1) := mrP_0 k _ (fun q hq => by unfold hdC; omega)
      rw [va_up_self, z]
    · rw [va_up_ne _ _ (by unfold hdC; omega)]
      exact mrP_1 j (by omega)
theorem rmF_c {f : Nat → Int64} {n d k : Nat} (hk : k < n - 1) (hd : d < n) : (∀ c, 15 + 150 * k ≤ c → c < 165 + 150 * k → rmB f n d c = f (c + 150 * (shf d k - k))) := by
  intro c h1 h2
  unfold rmB rmL shf
  by_cases e : k < d
  · rw [if_pos e, if_neg (by omega), va_up_ne _ _ (by omega), Nat.sub_self, Nat.mul_zero, Nat.add_zero]
  · rw [if_neg e, if_pos (by omega), va_up_ne _ _ (by omega), show k + 1 - k = 1 by omega]
theorem rmF_h {f : Nat → Int64} {n d k t : Nat} (hk : k < n - 1) (hd : d < n) (ht : t ≤ 9) (h1 : t ≠ 1) : rmF f n d (hdC k t) = f (hdC (shf d k) t) := by
  unfold rmF
  rw [mrP_0 _ _ (fun q hq => by unfold hdC; omega), rmF_c hk hd _ (by unfold hdC; omega) (by unfold hdC; omega)]
  congr 1
  unfold hdC shf
  split <;> omega
theorem rmF_p {f : Nat → Int64} {n d k i t : Nat} (hk : k < n - 1) (hd : d < n) (hi : i < 20) (ht : t ≤ 6) : rmF f n d (ceC k i + t) = f (ceC (shf d k) i + t) := by
  unfold rmF
  rw [mrP_0 _ _ (fun q hq => by unfold ceC hdC; rcases Nat.lt_or_ge k q with z | z <;> omega), rmF_c hk hd _ (by unfold ceC; omega) (by unfold ceC; omega)]
  congr 1
  unfold ceC shf
  split <;> omega
theorem rmF_1 {f : Nat → Int64} {n d k : Nat} (hk : k < n - 1) (hd : d < n) : rmF f n d (hdC k 1) = f (hdC (shf d k) 1) - (if f (hdC (shf d k) 1) ≤ (nI d).toInt64 then 0 else 1) := by
  have z : rmB f n d (hdC k 1) = f (hdC (shf d k) 1) := by
    rw [rmF_c hk hd _ (by unfold hdC; omega) (by unfold hdC; omega)]
    congr 1
    unfold hdC shf
    split <;> omega
  unfold rmF
  rw [mrP_1 _ hk, z]
theorem rmF_lo {f : Nat → Int64} {n d c : Nat} (hc : c < 14) : rmF f n d c = f c := by
  unfold rmF
  rw [mrP_0 _ _ (fun q hq => by unfold hdC; omega)]
  unfold rmB rmL
  rw [if_neg (by omega), va_up_ne _ _ (by omega)]
/-- a drawing in another place, with another parent -/
theorem PD.mv {f f' : Nat → Int64} {j j' : Nat} {d : Dr} {q : Int32} (h : PD f j' d) (h1 : f' (hdC j 1) = q.toInt64) (hh : ∀ t, t ≤ 9 → t ≠ 1 → f' (hdC j t) = f (hdC j' t)) (hp : ∀ i t, i < rn d → t ≤ 6 → f' (ceC j i + t) = f (ceC j' i + t)) : PD f' j (dPa d q) := by
  refine ⟨⟨(hh 0 (by decide) (by decide)).trans h.1.1, h1, ⟨(hh 2 (by decide) (by decide)).trans h.1.2.2.1.1, (hh 3 (by decide) (by decide)).trans h.1.2.2.1.2⟩, ⟨(hh 4 (by decide) (by decide)).trans h.1.2.2.2.1.1, (hh 5 (by decide) (by decide)).trans h.1.2.2.2.1.2⟩, ⟨(hh 6 (by decide) (by decide)).trans h.1.2.2.2.2.1.1, (hh 7 (by decide) (by decide)).trans h.1.2.2.2.2.1.2⟩, (hh 8 (by decide) (by decide)).trans h.1.2.2.2.2.2.1, (hh 9 (by decide) (by decide)).trans h.1.2.2.2.2.2.2⟩, fun i hi => ?_⟩
  have p := h.2 i hi
  exact ⟨⟨(hp i 0 hi (by decide)).trans p.1.1, (hp i 1 hi (by decide)).trans p.1.2.1, (hp i 2 hi (by decide)).trans p.1.2.2.1, (hp i 3 hi (by decide)).trans p.1.2.2.2⟩, (hp i 4 hi (by decide)).trans p.2.1, (hp i 5 hi (by decide)).trans p.2.2.1, (hp i 6 hi (by decide)).trans p.2.2.2⟩
theorem dPa_s (d : Dr) : dPa d (rpa d) = d := rfl
/-- the parent behind a removal -/
theorem dec_is {d : Nat} {p : Int32} {dr : Dr} (hr : rpa dr = p) : decD (nI d) dr = dPa dr (if nI d < p then p - 1 else p) := by
  unfold decD
  rw [hr]
  by_cases e : nI d < p
  · rw [if_pos e, if_pos e]
  · rw [if_neg e, if_neg e, ← hr, dPa_s]
theorem rel_remove {f : Nat → Int64} {S : Dk} {i : Int32} (g : Rel f S) : (mRem f (kn S) i).1 = (cRem S i).1 ∧ RelA (cRem S i).2 (mRem f (kn S) i).2 := by
  have n6 := g.n6
  unfold mRem cRem
  by_cases e : inD S i
  · rw [if_neg (show ¬ ¬ inM (kn S) i from fun z => z e)]
    try rw [if_neg (show ¬ ¬ inD S i from fun z => z e)]
    obtain ⟨d, hd, rfl, ec⟩ := inM_n (n := kn S) (by omega) e
    rw [ec, rel_pcp g _ _ (Nat.le_refl _)]
    by_cases e2 : hcp S (nI d) (kn S) = true
    · rw [if_pos e2]
      try rw [if_pos e2]
      exact ⟨rfl, trivial⟩
    · rw [if_neg e2]
      try rw [if_neg e2]
      have hno := hcp_no _ e2
      obtain ⟨K, hK⟩ := g.K
      refine ⟨rfl, ?_⟩
      show Rel (rmF f (kn S) d) (rmS S d (kn S - 1))
      have sh : ∀ k, k < kn S - 1 → shf d k < kn S := fun k hk => by unfold shf; split <;> omega
      have kd : ∀ k, k < kn S - 1 → kdr (rmS S d (kn S - 1)) k = decD (nI d) (kdr S (shf d k)) := fun k hk => if_pos hk
      -- what the parent becomes
      have pr : ∀ k, k < kn S - 1 → rmF f (kn S) d (hdC k 1) = (if nI d < rpa (kdr S (shf d k)) then rpa (kdr S (shf d k)) - 1 else rpa (kdr S (shf d k))).toInt64 := fun k hk => by
        rw [rmF_1 hk hd, (g.d _ (sh k hk)).1.2.1]
        have le : (rpa (kdr S (shf d k))).toInt64 ≤ (nI d).toInt64 ↔ ¬ nI d < rpa (kdr S (shf d k)) := by
          rw [Int64.le_iff_toInt_le, Int32.toInt_toInt64, Int32.toInt_toInt64, Int32.lt_iff_toInt_lt]; omega
        by_cases z : nI d < rpa (kdr S (shf d k))
        · rw [if_neg (fun t => le.mp t z), if_pos z]
          rcases (hK _ (sh k hk)).2.1 with ⟨q, -⟩ | ⟨q, hq, q2, -⟩
          · exfalso
            rw [q, Int32.lt_iff_toInt_lt, nI_toInt (by omega)] at z
            have : (-1 : Int32).toInt = -1 := by decide
            omega
          · have := sh k hk
            rw [q2, nI_ltI (by omega) (by omega)] at z
            rw [q2, show nI q - 1 = nI (q - 1) from pk_sub (a := q) (b := 1) (by omega), nI_l (by omega), nI_l (by omega)]
            exact lN_sub (a := q) (b := 1) (by omega)
        · rw [if_pos (le.mpr z), if_neg z]
          exact Int64.sub_zero _
      refine ⟨?_, g.r, show kn S - 1 ≤ 6 by omega, fun k hk => ?_, fun k => K (shf d k), fun k hk => ?_⟩
      · have h := g.h
        unfold PH at h ⊢
        rw [rmF_lo (c := 0) (by decide), rmF_lo (c := 1) (by decide), rmF_lo (c := 2) (by decide), rmF_lo (c := 3) (by decide), rmF_lo (c := 4) (by decide), rmF_lo (c := 5) (by decide), rmF_lo (c := 6) (by decide), rmF_lo (c := 7) (by decide), rmF_lo (c := 8) (by decide), rmF_lo (c := 9) (by decide), rmF_lo (c := 10) (by decide), rmF_lo (c := 11) (by decide), rmF_lo (c := 12) (by decide), rmF_lo (c := 13) (by decide)]
        exact ⟨h.1, h.2.1, h.2.2.1, h.2.2.2.1, h.2.2.2.2.1, rm_14b h.2.2.2.2.2 (by omega)⟩
      · have hk2 : k < kn S - 1 := hk
        rw [kd k hk2, dec_is rfl]
        have n20 := g.n20 _ (sh k hk2)
        exact ⟨(g.d _ (sh k hk2)).mv (pr k hk2) (fun t ht h1 => rmF_h hk2 hd ht h1) (fun i t hi ht => rmF_p hk2 hd (by omega) ht), g.l _ (sh k hk2)⟩
      · have hk2 : k < kn S - 1 := hk
        have hs := sh k hk2
        unfold Par
        rw [kd k hk2, dec_is rfl]
        refine ⟨(hK _ hs).1, ?_⟩
        rcases (hK _ hs).2.1 with ⟨q, q2⟩ | ⟨q, hq, q2, q3, q4⟩
        · refine Or.inl ⟨?_, q2⟩
          show (if nI d < rpa (kdr S (shf d k)) then rpa (kdr S (shf d k)) - 1 else rpa (kdr S (shf d k))) = -1
          rw [q, if_neg (fun z => by
            rw [Int32.lt_iff_toInt_lt, nI_toInt (by omega)] at z
            have : (-1 : Int32).toInt = -1 := by decide
            omega)]
        · have qd : q ≠ d := fun z => hno _ hs (by rw [q2, z])
          have sk : shf d k = if k < d then k else k + 1 := rfl
          by_cases z : q < d
          · refine Or.inr ⟨q, by rw [sk] at hq; split at hq <;> omega, ?_, ?_, ?_⟩
            · show (if nI d < rpa (kdr S (shf d k)) then rpa (kdr S (shf d k)) - 1 else rpa (kdr S (shf d k))) = nI q
              rw [q2, if_neg (fun t => by rw [nI_ltI (by omega) (by omega)] at t; omega)]
            · show K (shf d k) = K (shf d q) + 1
              rw [q3, show shf d q = q from if_pos z]
            · have hq1 : q < kn S - 1 := by rw [sk] at hq; split at hq <;> omega
              rw [kd q hq1, dec_is rfl, show shf d q = q from if_pos z]
              exact q4
          · have hkd : ¬ k < d := fun t => by rw [sk, if_pos t] at hq; omega
            have hq5 : q < k + 1 := by rw [sk, if_neg hkd] at hq; exact hq
            have s1 : shf d (q - 1) = q := by unfold shf; rw [if_neg (by omega)]; omega
            refine Or.inr ⟨q - 1, by omega, ?_, ?_, ?_⟩
            · show (if nI d < rpa (kdr S (shf d k)) then rpa (kdr S (shf d k)) - 1 else rpa (kdr S (shf d k))) = nI (q - 1)
              rw [q2, if_pos ((nI_ltI (by omega) (by omega)).mpr (by omega))]
              exact pk_sub (a := q) (b := 1) (by omega)
            · show K (shf d k) = K (shf d (q - 1)) + 1
              rw [q3, s1]
            · rw [kd (q - 1) (by omega), dec_is rfl, s1]
              exact q4
  · rw [if_pos (show ¬ inM (kn S) i from e)]
    try rw [if_pos (show ¬ inD S i from e)]
    exact ⟨rfl, trivial⟩
/-! an axis of a copy -/
def axX (pv p b s a x : Int) : Int := pv * p * b + s * a * (x - pv * p)
def axR (j : Bool) (t X Y : Int) : Int := if j = true then (if Y + t < X then X - t else if X < Y - t then X + t else Y) else X
theorem axX_ab {pv p b s a x B : Int} (h1 : 0 ≤ pv) (h2 : pv ≤ 1000) (hp : 0 < p) (b1 : 1 ≤ b) (b2 : b ≤ 20) (hs : Ab s 1) (a1 : 1 ≤ a) (a2 : a ≤ 20) (hx : Ab x B) : Ab (axX pv p b s a x) (20 * B + 40000 * p) := by
  have m0 := Int.mul_nonneg h1 (show 0 ≤ p by omega)
  have m1 := Int.mul_le_mul h2 (Int.le_refl p) (by omega) (by decide)
  have u0 := Int.mul_nonneg m0 (show 0 ≤ b by omega)
  have u1 := Int.mul_le_mul (Int.le_refl (pv * p)) b2 (by omega) m0
  have v1 := mul_ab hs (show Ab a 20 from ⟨by omega, by omega⟩) (by decide) (by decide)
  have v2 := mul_ab v1 (show Ab (x - pv * p) (B + pv * p) from ⟨by have := hx.1; omega, by have := hx.2; omega⟩) (by decide) (by have := hx.1; have := hx.2; omega)
  unfold axX
  generalize pv * p = m at *
  generalize m * b = u at *
  generalize s * a * (x - m) = v at *
  constructor <;> omega
theorem axX_m {pv p b s a x m : Int} : axX pv p b s a x * m = axX pv (p * m) b s a (x * m) := by
  unfold axX
  have e1 : pv * p * b * m = pv * (p * m) * b := by ac_rfl
  have e2 : s * a * (x - pv * p) * m = s * a * (x * m - pv * (p * m)) := by
    rw [Int.mul_assoc, Int.sub_mul, Int.mul_assoc pv p m]
  rw [Int.add_mul, e1, e2]
/-- the aim of a fraction in lowest terms -/
theorem aim_ok {f : Nat → Int64} {ax : Nat} {pv a b s x p : Int} (h0 : f 0 = J a) (h1 : f 1 = J b) (h2 : f (2 + ax) = J pv) (hs : (sgf f ax).toInt64 = J s) (hp : 0 < p) (b1 : 1 ≤ b) (bx : Bd (axX pv p b s a x)) (bq : Bd (p * b)) : (rdN (aimA f ax (J (LN x p)) (J (LD x p))) (aimB f (J (LD x p))) = J (LN (axX pv p b s a x) (p * b)) ∧ rdD (aimA f ax (J (LN x p)) (J (LD x p))) (aimB f (J (LD x p))) = J (LD (axX pv p b s a x) (p * b))) := by
  obtain ⟨m, m0, e1, e2, e3⟩ := lq_m x hp
  have eA : aimA f ax (J (LN x p)) (J (LD x p)) = J (axX pv (LD x p) b s a (LN x p)) := by
    unfold aimA axX
    rw [h0, h1, h2, hs, J_mul, J_mul, J_mul, J_sub, J_mul, J_add]
  have eB : aimB f (J (LD x p)) = J (LD x p * b) := by
    unfold aimB; rw [h1, J_mul]
  have q1 : axX pv (LD x p) b s a (LN x p) * m = axX pv p b s a x := by rw [axX_m, ← e1, ← e2]
  have q2 : LD x p * b * m = p * b := by
    rw [Int.mul_assoc, Int.mul_comm b m, ← Int.mul_assoc, ← e2]
  have r := rd_J (n := axX pv (LD x p) b s a (LN x p)) (d := LD x p * b) (Bd_m m0 (by rw [q1]; exact bx)) (Bd_m m0 (by rw [q2]; exact bq)) (Int.mul_pos e3 (by omega))
  have t := lq_s (n := axX pv (LD x p) b s a (LN x p)) (d := LD x p * b) m0
  rw [q1, q2] at t
  rw [eA, eB, r.1, r.2, t.1, t.2]
  exact ⟨rfl, rfl⟩
/-- the pencil follows -/
theorem fol_ok {f : Nat → Int64} {pl X Y q : Int} (h5 : f 5 = J pl) (hq : 0 < q) (p0 : 0 ≤ pl) (p1 : pl ≤ 50) (bq : q ≤ 100000000000) (bX : Ab X 1000000000000000) (bY : Ab Y 1000000000000000) : (folN f (J (LN X q)) (J (LD X q)) (J (LN Y q)) (J (LD Y q)) = J (LN (axR true (pl * q) X Y) q) ∧ folD f (J (LN X q)) (J (LD X q)) (J (LN Y q)) (J (LD Y q)) = J (LD (axR true (pl * q) X Y) q)) ∧ ¬ dvs (J (LD X q)) (J (LD Y q)) = 0 ∧ ¬ dvs (J (LD X q)) 1 = 0 := by
  have m1 : (-1 : Int64) = J (-1) := by decide
  have o1 : (1 : Int64) = J 1 := by decide
  have bQ : Bd q := ⟨by omega, by omega⟩
  have t0 := Int.mul_nonneg p0 (show 0 ≤ q by omega)
  have t1 := Int.mul_le_mul p1 (Int.le_refl q) (by omega) (by decide)
  have u := PL (x := X) (y := Y) (-1) hq bQ ⟨by omega, by omega⟩
  have z := lq_z pl hq
  have v1 := PL (x := X) (y := pl * q) (-1) hq bQ ⟨by omega, by omega⟩
  have v2 := PL (x := X) (y := pl * q) 1 hq bQ ⟨by omega, by omega⟩
  rw [z.1, z.2] at v1 v2
  have w := rd_J (n := LN Y q) (d := LD Y q) (Bd_N hq ⟨by omega, by omega⟩) (Bd_D hq bQ) (LD_pos hq)
  have w2 := lq_l (n := Y) hq
  rw [w2.1, w2.2] at w
  have eU : folU (J (LN X q)) (J (LD X q)) (J (LN Y q)) (J (LD Y q)) = J (LN (X + -1 * Y) q) := by unfold folU; rw [m1]; exact u.1.1
  have eV : folV (J (LN X q)) (J (LD X q)) (J (LN Y q)) (J (LD Y q)) = J (LD (X + -1 * Y) q) := by unfold folV; rw [m1]; exact u.1.2
  have bU := Bd_N (n := X + -1 * Y) hq ⟨by omega, by omega⟩
  have bV := Bd_D (n := X + -1 * Y) hq bQ
  have dV := LD_le (n := X + -1 * Y) hq
  have pV := LD_pos (n := X + -1 * Y) hq
  have k0 := Int.mul_nonneg p0 (show 0 ≤ LD (X + -1 * Y) q by omega)
  have k1 := Int.mul_le_mul p1 (Int.le_refl (LD (X + -1 * Y) q)) (by omega) (by decide)
  have bK : Bd (pl * LD (X + -1 * Y) q) := ⟨by omega, by omega⟩
  have bN : Bd (-LN (X + -1 * Y) q) := ⟨by have := bU.2; omega, by have := bU.1; omega⟩
  have c1 : f 5 * folV (J (LN X q)) (J (LD X q)) (J (LN Y q)) (J (LD Y q)) < folU (J (LN X q)) (J (LD X q)) (J (LN Y q)) (J (LD Y q)) ↔ Y + pl * q < X := by
    rw [eU, eV, h5, J_mul, J_lt bK bU, lq_lt hq]; omega
  have c2 : f 5 * folV (J (LN X q)) (J (LD X q)) (J (LN Y q)) (J (LD Y q)) < -folU (J (LN X q)) (J (LD X q)) (J (LN Y q)) (J (LD Y q)) ↔ X < Y - pl * q := by
    rw [eU, eV, h5, J_mul, J_neg, J_lt bK bN, lq_gt hq]; omega
  refine ⟨?_, u.2, ?_⟩
  · unfold folN folD axR
    rw [if_pos (show true = true from rfl)]
    by_cases g1 : Y + pl * q < X
    · rw [if_pos (c1.mpr g1), if_pos (c1.mpr g1), if_pos g1, h5, m1, o1, show X - pl * q = X + -1 * (pl * q) by omega]
      exact v1.1
    · rw [if_neg (fun t => g1 (c1.mp t)), if_neg (fun t => g1 (c1.mp t)), if_neg g1]
      by_cases g2 : X < Y - pl * q
      · rw [if_pos (c2.mpr g2), if_pos (c2.mpr g2), if_pos g2, h5, o1, show X + pl * q = X + 1 * (pl * q) by omega]
        exact v2.1
      · rw [if_neg (fun t => g2 (c2.mp t)), if_neg (fun t => g2 (c2.mp t)), if_neg g2]
        exact w
  · rw [o1]; exact v1.2
/-- the class's own axis -/
theorem sAim_J {S : Dk} {x p : Int64} {pv sg : Int32} (ra : Rg (kf S 0) 1 20) (hs : sg = 1 ∨ sg = -1) : sAim S x p pv sg = J (axX pv.toInt p.toInt (kf S 1).toInt sg.toInt (kf S 0).toInt x.toInt) := by
  have e : (sg * kf S 0).toInt64 = J (sg.toInt * (kf S 0).toInt) := by
    rw [i32_J]
    congr 1
    rcases hs with rfl | rfl
    · rw [Int32.one_mul, show (1 : Int32).toInt = 1 from rfl, Int.one_mul]
    · have q : (-1 : Int32) * kf S 0 = Int32.ofInt (-(kf S 0).toInt) := by
        rw [Int32.ofInt_neg, Int32.ofInt_toInt]
        exact (Int32.neg_eq_neg_one_mul _).symm
      rw [q, Int32.toInt_ofInt_of_le (by omega) (by omega), show (-1 : Int32).toInt = -1 from by decide]
      omega
  unfold sAim axX
  rw [e, i32_J pv, i32_J (kf S 1)]
  conv => lhs; rw [J_of x, J_of p]
  rw [J_mul, J_mul, J_sub, J_mul, J_add]
theorem sFol_J {Y X t : Int} (bY : Ab Y 1000000000000000) (bX : Ab X 1000000000000000) (t0 : 0 ≤ t) (bt : t ≤ 1000000000000000) : sFol (J Y) (J X) (J t) = J (axR true t X Y) := by
  unfold sFol axR
  rw [J_add, J_sub, J_sub, J_add, if_pos (show true = true from rfl)]
  have c1 : J (Y + t) < J X ↔ Y + t < X := J_lt ⟨by omega, by omega⟩ ⟨by omega, by omega⟩
  have c2 : J X < J (Y - t) ↔ X < Y - t := J_lt ⟨by omega, by omega⟩ ⟨by omega, by omega⟩
  by_cases g1 : Y + t < X
  · rw [if_pos (c1.mpr g1), if_pos g1]
  · rw [if_neg (fun z => g1 (c1.mp z)), if_neg g1]
    by_cases g2 : X < Y - t
    · rw [if_pos (c2.mpr g2), if_pos g2]
    · rw [if_neg (fun z => g2 (c2.mp z)), if_neg g2]
theorem axR_ab {j : Bool} {t X Y B : Int} (hX : Ab X B) (hY : j = true → Ab Y B) (t0 : 0 ≤ t) : Ab (axR j t X Y) B := by
  unfold axR
  by_cases e : j = true
  · have y := hY e
    rw [if_pos e]
    split
    · constructor <;> omega
    · split
      · constructor <;> omega
      · exact y
  · rw [if_neg e]; exact hX

