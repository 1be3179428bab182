/-! the whole copy -/
theorem tr_all {f : Nat → Int64} {S : Dk} {d kk : Nat} {num : Int32} (g : Rel f S) (hd : d < kn S) (hkk : kk ≤ 4) (c : CIv (kdr S d) kk) : ∀ k, k ≤ rn (kdr S d) → (∀ i, i < k → PX (cpT (cp4 f (kn S) d) d (kn S) k) (ceC (kn S) i) (trD S num (kdr S d)) i ∧ cpT (cp4 f (kn S) d) d (kn S) k (ceC (kn S) i + 4) = (if rl (kdr S d) i = -1 then 0 else 1)) ∧ (∀ q, 15 + 150 * kn S ≤ q → (∀ i, i < k → q < ceC (kn S) i ∨ ceC (kn S) i + 4 < q) → cpT (cp4 f (kn S) d) d (kn S) k q = cp4 f (kn S) d q)
  | 0, _ => ⟨fun i hi => absurd hi (Nat.not_lt_zero i), fun q _ _ => rfl⟩
  | k + 1, hk => by
    obtain ⟨A, B⟩ := tr_all g hd hkk c (num := num) k (by omega)
    have lo : LoE (cpT (cp4 f (kn S) d) d (kn S) k) f (kn S) := fun q h1 h2 => cp_lo h1 h2
    have r0 : ¬ rl (kdr S d) k = -1 → 1 ≤ k := fun z => by
      rcases Nat.eq_zero_or_pos k with t | t
      · subst t; exact absurd ((g.l d hd).2 (by omega)) z
      · exact t
    obtain ⟨-, s1, s2, s3⟩ := tr_step (num := num) g hd (show k < rn (kdr S d) by omega) hkk c lo (fun z => (A (k - 1) (by have := r0 z; omega)).1)
    refine ⟨fun i hi => ?_, fun q h1 h2 => ?_⟩
    · by_cases ei : i = k
      · subst ei; exact ⟨s1, s2⟩
      · have a := A i (by omega)
        have ne : ∀ t, t ≤ 6 → cpT (cp4 f (kn S) d) d (kn S) (k + 1) (ceC (kn S) i + t) = cpT (cp4 f (kn S) d) d (kn S) k (ceC (kn S) i + t) := fun t ht => s3 _ (Or.inl (by unfold ceC; omega))
        refine ⟨⟨(ne 0 (by decide)).trans a.1.1, (ne 1 (by decide)).trans a.1.2.1, (ne 2 (by decide)).trans a.1.2.2.1, (ne 3 (by decide)).trans a.1.2.2.2⟩, (ne 4 (by decide)).trans a.2⟩
    · exact (s3 q (h2 k (by omega))).trans (B q h1 (fun i hi => h2 i (by omega)))
theorem rel_CpOK {f : Nat → Int64} {S : Dk} (g : Rel f S) : ∀ d, d < kn S → kn S ≤ 5 → CpOK f (kn S) d (npS S d) := fun d hd hn k hk => by
  obtain ⟨K, hK⟩ := g.K
  have hkk : K d ≤ 4 := by have := (hK d hd).2.2; omega
  obtain ⟨A, B⟩ := tr_all (num := 0) g hd hkk (hK d hd).1 k (Nat.le_of_lt hk)
  have r0 : ¬ rl (kdr S d) k = -1 → 1 ≤ k := fun z => by
    rcases Nat.eq_zero_or_pos k with t | t
    · subst t; exact absurd ((g.l d hd).2 hk) z
    · exact t
  exact (tr_step (num := 0) g hd hk hkk (hK d hd).1 (fun q h1 h2 => cp_lo h1 h2) (fun z => (A (k - 1) (by have := r0 z; omega)).1)).1
theorem cp3_c {g : Nat → Int64} {n d ax : Nat} (hax : ax < 2) : cp3 g n d ax (hdC n (4 + ax)) = g (hdC d (4 + ax)) * (sgf g ax).toInt64 ∧ (∀ c, c ≠ hdC n (4 + ax) → c ≠ hdC n (6 + 2 * ax) → c ≠ hdC n (6 + 2 * ax) + 1 → cp3 g n d ax c = g c) := by
  refine ⟨?_, fun c h1 h2 h3 => ?_⟩
  · unfold cp3 shF
    rw [va_up_ne _ _ (by unfold hdC; omega), va_up_ne _ _ (by unfold hdC; omega), va_up_self]
  · unfold cp3 shF
    rw [va_up_ne _ _ h3, va_up_ne _ _ h2, va_up_ne _ _ h1]
/-- the shift of the copy, by x or y -/
theorem cp3_sh {f g : Nat → Int64} {n d ax : Nat} {h p pv s a b : Int} (hd : d < n) (lo : LoE g f n) (hax : ax < 2) (e0 : f 0 = J a) (e1 : f 1 = J b) (e2 : f (2 + ax) = J pv) (es : (sgf g ax).toInt64 = J s) (c1 : f (hdC d (6 + 2 * ax)) = J (LN h p)) (c2 : f (hdC d (6 + 2 * ax) + 1) = J (LD h p)) (hp : 0 < p) (b1 : 1 ≤ b) (bx : Bd (axX pv p b s a h)) (bq : Bd (p * b)) : cp3 g n d ax (hdC n (6 + 2 * ax)) = J (LN (axX pv p b s a h) (p * b)) ∧ cp3 g n d ax (hdC n (6 + 2 * ax) + 1) = J (LD (axX pv p b s a h) (p * b)) := by
  generalize hu : g (hdC d (4 + ax)) * (sgf g ax).toInt64 = u
  have lo2 : ∀ c, c < 15 + 150 * n → c ≠ 14 → va_up g (hdC n (4 + ax)) u c = f c := fun c h1 h2 => (va_up_ne _ _ (by unfold hdC; omega)).trans (lo c h1 h2)
  have sg : sgf (va_up g (hdC n (4 + ax)) u) ax = sgf g ax := by
    unfold sgf
    rw [va_up_ne _ _ (show 4 ≠ hdC n (4 + ax) by unfold hdC; omega)]
  have m := aim_ok (f := va_up g (hdC n (4 + ax)) u) (ax := ax) (x := h) ((lo2 0 (by omega) (by decide)).trans e0) ((lo2 1 (by omega) (by decide)).trans e1) ((lo2 (2 + ax) (by omega) (by omega)).trans e2) (by rw [sg]; exact es) hp b1 bx bq
  have k1 := (lo2 (hdC d (6 + 2 * ax)) (by unfold hdC; omega) (by unfold hdC; omega)).trans c1
  have k2 := (lo2 (hdC d (6 + 2 * ax) + 1) (by unfold hdC; omega) (by unfold hdC; omega)).trans c2
  refine ⟨?_, ?_⟩
  · unfold cp3 shF
    rw [va_up_ne _ _ (by omega), va_up_self, hu]
    unfold shN
    rw [k1, k2]
    exact m.1
  · unfold cp3 shF
    rw [va_up_self, hu]
    unfold shD
    rw [k1, k2]
    exact m.2
theorem sg_mul {x y : Int32} (hx : x = 1 ∨ x = -1) (hy : y = 1 ∨ y = -1) : x.toInt64 * y.toInt64 = (x * y).toInt64 := by
  rcases hx with rfl | rfl <;> rcases hy with rfl | rfl <;> decide
/-- the ratio of the copy -/
theorem cp_rat {f : Nat → Int64} {S : Dk} {d : Nat} {num : Int32} (g : Rel f S) (hd : d < kn S) : cpN f (kn S) d = J (LN (iS (trD S num (kdr S d))) (iP (trD S num (kdr S d)))) ∧ cpD f (kn S) d = J (LD (iS (trD S num (kdr S d))) (iP (trD S num (kdr S d)))) := by
  have b := g.b d hd
  obtain ⟨p1, p2, p3, p4, p5, p6⟩ := tr_P (num := num) g hd
  have pe := (g.d d hd).1.2.2.1
  have l2 : cp1 f (kn S) d (hdC d 2) = J (LN (iS (kdr S d)) (iP (kdr S d))) := (cp1_lo (by unfold hdC; omega) (by unfold hdC; omega)).trans pe.1
  have l3 : cp1 f (kn S) d (hdC d 3) = J (LD (iS (kdr S d)) (iP (kdr S d))) := (cp1_lo (by unfold hdC; omega) (by unfold hdC; omega)).trans pe.2
  have l0 : cp1 f (kn S) d 0 = J (aI S) := (cp1_lo (by omega) (by decide)).trans (g.h.1.1.trans (i32_J _))
  have l1 : cp1 f (kn S) d 1 = J (bI S) := (cp1_lo (by omega) (by decide)).trans (g.h.1.2.1.trans (i32_J _))
  obtain ⟨m, m0, e1, e2, e3⟩ := lq_m (iS (kdr S d)) b.1.1
  have q1 : LN (iS (kdr S d)) (iP (kdr S d)) * aI S * m = iS (kdr S d) * aI S := by
    conv => rhs; rw [e1]
    ac_rfl
  have q2 : LD (iS (kdr S d)) (iP (kdr S d)) * bI S * m = qI S (kdr S d) := by
    show _ = iP (kdr S d) * bI S
    conv => rhs; rw [e2]
    ac_rfl
  have rb : 1 ≤ bI S ∧ bI S ≤ 20 := g.r.1.2.1
  have r := rd_J (n := LN (iS (kdr S d)) (iP (kdr S d)) * aI S) (d := LD (iS (kdr S d)) (iP (kdr S d)) * bI S) (Bd_m m0 (by rw [q1]; exact ⟨by omega, by omega⟩)) (Bd_m m0 (by rw [q2]; exact ⟨by omega, by omega⟩)) (Int.mul_pos e3 (by omega))
  have t := lq_s (n := LN (iS (kdr S d)) (iP (kdr S d)) * aI S) (d := LD (iS (kdr S d)) (iP (kdr S d)) * bI S) m0
  rw [q1, q2] at t
  unfold cpN cpD
  rw [l0, l1, l2, l3, J_mul, J_mul, r.1, r.2, p1, p2, t.1, t.2]
  exact ⟨rfl, rfl⟩
theorem cp_head {f : Nat → Int64} {S : Dk} {d : Nat} {num : Int32} (g : Rel f S) (hd : d < kn S) (hnum : num = nI d) : (cp4 f (kn S) d (hdC (kn S) 1) = num.toInt64 ∧ (cp4 f (kn S) d (hdC (kn S) 2) = J (LN (iS (trD S num (kdr S d))) (iP (trD S num (kdr S d)))) ∧ cp4 f (kn S) d (hdC (kn S) 3) = J (LD (iS (trD S num (kdr S d))) (iP (trD S num (kdr S d))))) ∧ (cp4 f (kn S) d (hdC (kn S) 4) = (rsx (trD S num (kdr S d))).toInt64 ∧ cp4 f (kn S) d (hdC (kn S) 5) = (rsy (trD S num (kdr S d))).toInt64) ∧ (cp4 f (kn S) d (hdC (kn S) 6) = J (LN (iH (trD S num (kdr S d))) (iP (trD S num (kdr S d)))) ∧ cp4 f (kn S) d (hdC (kn S) 7) = J (LD (iH (trD S num (kdr S d))) (iP (trD S num (kdr S d))))) ∧ cp4 f (kn S) d (hdC (kn S) 8) = J (LN (iG (trD S num (kdr S d))) (iP (trD S num (kdr S d)))) ∧ cp4 f (kn S) d (hdC (kn S) 9) = J (LD (iG (trD S num (kdr S d))) (iP (trD S num (kdr S d))))) := by
  have b := g.b d hd
  obtain ⟨p1, p2, p3, p4, p5, p6⟩ := tr_P (num := num) g hd
  obtain ⟨hh, hg⟩ := tr_H (num := num) g hd
  have pe := (g.d d hd).1
  have rat := cp_rat (num := num) g hd
  obtain ⟨kk, -, ck⟩ := g.c d hd
  have e0 : f 0 = J (aI S) := g.h.1.1.trans (i32_J _)
  have e1 : f 1 = J (bI S) := g.h.1.2.1.trans (i32_J _)
  have e2 : f (2 + 0) = J (kf S 2).toInt := g.h.1.2.2.1.trans (i32_J _)
  have e3 : f (2 + 1) = J (kf S 3).toInt := g.h.1.2.2.2.trans (i32_J _)
  have lo2 : LoE (cp2 f (kn S) d) f (kn S) := fun q h1 h2 => cp2_lo h1 h2
  have lo3 : LoE (cp3 (cp2 f (kn S) d) (kn S) d 0) f (kn S) := fun q h1 h2 => (cp3_lo h1).trans (cp2_lo h1 h2)
  have s2 := sgf_is ((lo2 4 (by omega) (by decide)).trans g.h.2.1.1) g.r.2.1.1
  have s3 := sgf_is ((lo3 4 (by omega) (by decide)).trans g.h.2.1.1) g.r.2.1.1
  have rb : 1 ≤ bI S := g.r.1.2.1.1
  have a1 := (xI_ab g hd b.2.2.1.1).1
  have a2 := (xI_ab g hd b.2.2.1.2).2
  have c0 := cp3_c (g := cp2 f (kn S) d) (n := kn S) (d := d) (ax := 0) (by decide)
  have c1 := cp3_c (g := cp3 (cp2 f (kn S) d) (kn S) d 0) (n := kn S) (d := d) (ax := 1) (by decide)
  have h0 := cp3_sh (ax := 0) hd lo2 (by decide) e0 e1 e2 (by rw [s2.1]; exact i32_J _) pe.2.2.2.2.1.1 (show f (hdC d (6 + 2 * 0) + 1) = _ from pe.2.2.2.2.1.2) b.1.1 rb (show Bd (xI S (kdr S d) (iH (kdr S d))) from ⟨by omega, by omega⟩) (show Bd (qI S (kdr S d)) from ⟨by omega, by omega⟩)
  have h1 := cp3_sh (ax := 1) hd lo3 (by decide) e0 e1 e3 (by rw [s3.2]; exact i32_J _) pe.2.2.2.2.2.1 (show f (hdC d (6 + 2 * 1) + 1) = _ from pe.2.2.2.2.2.2) b.1.1 rb (show Bd (yI S (kdr S d) (iG (kdr S d))) from ⟨by omega, by omega⟩) (show Bd (qI S (kdr S d)) from ⟨by omega, by omega⟩)
  have o1 : ∀ t, t ≤ 4 ∨ t = 6 ∨ t = 7 → cp4 f (kn S) d (hdC (kn S) t) = cp3 (cp2 f (kn S) d) (kn S) d 0 (hdC (kn S) t) := fun t ht => c1.2 _ (by unfold hdC; omega) (by unfold hdC; omega) (by unfold hdC; omega)
  have o0 : ∀ t, t ≤ 3 → cp3 (cp2 f (kn S) d) (kn S) d 0 (hdC (kn S) t) = cp2 f (kn S) d (hdC (kn S) t) := fun t ht => c0.2 _ (by unfold hdC; omega) (by unfold hdC; omega) (by unfold hdC; omega)
  refine ⟨?_, ⟨?_, ?_⟩, ⟨?_, ?_⟩, ⟨?_, ?_⟩, ?_, ?_⟩
  · rw [o1 1 (by decide), o0 1 (by decide), hnum]
    unfold cp2 cp1
    rw [va_up_ne _ _ (by unfold hdC; omega), va_up_ne _ _ (by unfold hdC; omega), va_up_self]
  · rw [o1 2 (by decide), o0 2 (by decide), ← rat.1]
    unfold cp2
    rw [va_up_ne _ _ (by omega), va_up_self]
  · rw [o1 3 (by decide), o0 3 (by decide), ← rat.2]
    unfold cp2
    exact va_up_self _ _ _
  · rw [o1 4 (by decide), show cp3 (cp2 f (kn S) d) (kn S) d 0 (hdC (kn S) 4) = _ from c0.1, s2.1, show cp2 f (kn S) d (hdC d (4 + 0)) = _ from (lo2 _ (by unfold hdC; omega) (by unfold hdC; omega)).trans pe.2.2.2.1.1]
    exact sg_mul ck.2.2.2.2.2.1 (sgX_1 S).1
  · rw [show cp4 f (kn S) d (hdC (kn S) 5) = _ from c1.1, s3.2, show cp3 (cp2 f (kn S) d) (kn S) d 0 (hdC d (4 + 1)) = _ from (lo3 _ (by unfold hdC; omega) (by unfold hdC; omega)).trans pe.2.2.2.1.2]
    exact sg_mul ck.2.2.2.2.2.2 (sgX_1 S).2
  · rw [o1 6 (by decide), hh, p1]; exact h0.1
  · rw [o1 7 (by decide), hh, p1]; exact h0.2
  · rw [hg, p1]; exact h1.1
  · rw [hg, p1]; exact h1.2
theorem cp4_z {f : Nat → Int64} {n d c : Nat} (h1 : 25 + 150 * n ≤ c) (h2 : c < 165 + 150 * n) : cp4 f n d c = 0 := by
  unfold cp4
  rw [(cp3_c (ax := 1) (by decide)).2 c (by unfold hdC; omega) (by unfold hdC; omega) (by unfold hdC; omega), (cp3_c (ax := 0) (by decide)).2 c (by unfold hdC; omega) (by unfold hdC; omega) (by unfold hdC; omega)]
  unfold cp2 cp1
  rw [va_up_ne _ _ (by unfold hdC; omega), va_up_ne _ _ (by unfold hdC; omega), va_up_ne _ _ (by unfold hdC; omega), bgF_z h1 h2]
theorem trL_is {f : Nat → Int64} {S : Dk} {d i : Nat} {num : Int32} (g : Rel f S) (hd : d < kn S) (hi : i < rn (kdr S d)) : rl (trD S num (kdr S d)) i = (if rl (kdr S d) i = -1 then -1 else 0) := by
  have v := vX_n hi (g.n20 d hd)
  show trL (kdr S d) i = _
  unfold trL
  rw [v.2.2]
  by_cases z : i = 0
  · subst z
    rw [if_pos rfl, if_pos ((g.l d hd).2 hi)]
  · rw [if_neg z]
/-- the traced drawing on the page -/
theorem tr_PD {f : Nat → Int64} {S : Dk} {d : Nat} (g : Rel f S) (hd : d < kn S) (hn : kn S ≤ 5) : PD (cpF f (kn S) d (rn (kdr S d))) (kn S) (trD S (nI d) (kdr S d)) := by
  have n20 := g.n20 d hd
  obtain ⟨K, hK⟩ := g.K
  have hkk : K d ≤ 4 := by have := (hK d hd).2.2; omega
  obtain ⟨A, B⟩ := tr_all (num := nI d) g hd hkk (hK d hd).1 (rn (kdr S d)) (Nat.le_refl _)
  have H := cp_head (num := nI d) g hd rfl
  have up : ∀ q, q ≠ hdC (kn S) 0 → cpF f (kn S) d (rn (kdr S d)) q = cpT (cp4 f (kn S) d) d (kn S) (rn (kdr S d)) q := fun q hq => va_up_ne _ _ hq
  have hc : ∀ t, 1 ≤ t → t ≤ 9 → cpF f (kn S) d (rn (kdr S d)) (hdC (kn S) t) = cp4 f (kn S) d (hdC (kn S) t) := fun t h1 h9 => (up _ (by unfold hdC; omega)).trans (B _ (by unfold hdC; omega) (fun i _ => Or.inl (by unfold hdC ceC; omega)))
  refine ⟨⟨?_, (hc 1 (by decide) (by decide)).trans H.1, ⟨(hc 2 (by decide) (by decide)).trans H.2.1.1, (hc 3 (by decide) (by decide)).trans H.2.1.2⟩, ⟨(hc 4 (by decide) (by decide)).trans H.2.2.1.1, (hc 5 (by decide) (by decide)).trans H.2.2.1.2⟩, ⟨(hc 6 (by decide) (by decide)).trans H.2.2.2.1.1, (hc 7 (by decide) (by decide)).trans H.2.2.2.1.2⟩, (hc 8 (by decide) (by decide)).trans H.2.2.2.2.1, (hc 9 (by decide) (by decide)).trans H.2.2.2.2.2⟩, fun i hi => ?_⟩
  · show va_up _ _ _ _ = _
    rw [va_up_self]
    exact nI_l (by omega)
  · have hi2 : i < rn (kdr S d) := hi
    have a := A i hi2
    have ci : ∀ t, cpF f (kn S) d (rn (kdr S d)) (ceC (kn S) i + t) = cpT (cp4 f (kn S) d) d (kn S) (rn (kdr S d)) (ceC (kn S) i + t) := fun t => up _ (by unfold hdC ceC; omega)
    have rl1 := trL_is (num := nI d) g hd hi2
    refine ⟨⟨(ci 0).trans a.1.1, (ci 1).trans a.1.2.1, (ci 2).trans a.1.2.2.1, (ci 3).trans a.1.2.2.2⟩, (ci 4).trans (a.2.trans ?_), (ci 5).trans ((B _ (by unfold ceC; omega) (fun k _ => by unfold ceC; rcases Nat.lt_or_ge i k with z | z <;> omega)).trans ((cp4_z (by unfold ceC; omega) (by unfold ceC; omega)).trans ?_)), (ci 6).trans ((B _ (by unfold ceC; omega) (fun k _ => by unfold ceC; rcases Nat.lt_or_ge i k with z | z <;> omega)).trans ((cp4_z (by unfold ceC; omega) (by unfold ceC; omega)).trans ?_))⟩
    · rw [rl1]
      by_cases z : rl (kdr S d) i = -1
      · rw [if_pos z, if_pos z, if_pos rfl]
      · rw [if_neg z, if_neg z, if_neg (show ¬ (0 : Int32) = -1 by decide)]
    · rw [rl1]
      by_cases z : rl (kdr S d) i = -1
      · rw [if_pos z, if_pos (show (-1 : Int32) < 0 by decide)]
      · rw [if_neg z, if_neg (show ¬ (0 : Int32) < 0 by decide)]; rfl
    · rw [rl1]
      by_cases z : rl (kdr S d) i = -1
      · rw [if_pos z, if_neg (show ¬ (0 : Int32) < -1 by decide)]
      · rw [if_neg z, if_neg (show ¬ (0 : Int32) < 0 by decide)]
/-- too fine -/
theorem cpZ_is {f : Nat → Int64} {S : Dk} {d : Nat} (g : Rel f S) (hd : d < kn S) (hn : kn S ≤ 5) : cpZ f (kn S) d (rn (kdr S d)) = !tooF (trD S (nI d) (kdr S d)) := by
  have n20 := g.n20 d hd
  obtain ⟨K, hK⟩ := g.K
  have hkk : K d ≤ 4 := by have := (hK d hd).2.2; omega
  have cT := tr_CI (num := nI d) g hd hkk (hK d hd).1
  have b := cT.b (show K d + 1 ≤ 5 by omega)
  have rat := cp_rat (num := nI d) g hd
  have low : ∀ {x : Int64}, Ab x.toInt 36000000000 → lowL x (rpt (trD S (nI d) (kdr S d))) 0 = J (LN x.toInt (iP (trD S (nI d) (kdr S d)))) ∧ lowL x (rpt (trD S (nI d) (kdr S d))) 1 = J (LD x.toInt (iP (trD S (nI d) (kdr S d)))) := fun {x} hx => low_of (hx.w (by decide)) b.1.1 (show iP (trD S (nI d) (kdr S d)) ≤ _ by omega)
  have l0 := low (x := rsc (trD S (nI d) (kdr S d))) (show Ab (iS (trD S (nI d) (kdr S d))) _ from ⟨by omega, by omega⟩)
  have step : ∀ k, k ≤ rn (kdr S d) → cpB (cp4 f (kn S) d) d (kn S) (cpB0 f (kn S) d) k = (cpB0 f (kn S) d && !tfn (trD S (nI d) (kdr S d)) k) := by
    intro k
    induction k with
    | zero => intro _; show cpB0 f (kn S) d = (cpB0 f (kn S) d && !false); cases cpB0 f (kn S) d <;> rfl
    | succ k ih =>
      intro hk
      obtain ⟨A, -⟩ := tr_all (num := nI d) g hd hkk (hK d hd).1 (k + 1) hk
      have a := (A k (by omega)).1
      have v := vX_n (d := trD S (nI d) (kdr S d)) (i := k) (show k < rn (kdr S d) by omega) n20
      have bb := b.2.2.2 k (show k < rn (kdr S d) by omega)
      have lx := low bb.1
      have ly := low bb.2
      unfold cpB tfn
      rw [ih (by omega), a.2.1, a.2.2.2, v.1, v.2.1, lx.2, ly.2, decide_not, decide_not]
      cases cpB0 f (kn S) d <;> cases tfn (trD S (nI d) (kdr S d)) k <;> cases decide (100000 < J (LD (iX (trD S (nI d) (kdr S d)) k) (iP (trD S (nI d) (kdr S d))))) <;> cases decide (100000 < J (LD (iY (trD S (nI d) (kdr S d)) k) (iP (trD S (nI d) (kdr S d))))) <;> rfl
  unfold cpZ tooF
  rw [step _ (Nat.le_refl _), l0.1, l0.2]
  unfold cpB0
  rw [rat.1, rat.2, decide_not, decide_not]
  show _ = !(_ || (_ || tfn (trD S (nI d) (kdr S d)) (rn (kdr S d))))
  cases tfn (trD S (nI d) (kdr S d)) (rn (kdr S d)) <;> cases decide (100000 < J (LN (iS (trD S (nI d) (kdr S d))) (iP (trD S (nI d) (kdr S d))))) <;> cases decide (100000 < J (LD (iS (trD S (nI d) (kdr S d))) (iP (trD S (nI d) (kdr S d))))) <;> rfl
theorem rel_rea {f : Nat → Int64} {S : Dk} {d : Nat} (g : Rel f S) (hd : d < kn S) : mRea f (kn S) (npS S) d = rsn S (nI d) (kdr S d) := by
  have n6 := g.n6
  unfold mRea rsn
  by_cases e1 : rn (kdr S d) < 1
  · rw [if_pos (show npS S d = 0 by show rn (kdr S d) = 0; omega), if_pos e1]
  · rw [if_neg (show ¬ npS S d = 0 by show ¬ rn (kdr S d) = 0; omega), if_neg e1]
    by_cases e2 : sWorn S ≤ 9
    · rw [if_neg (show ¬ ¬ 1 + f 9 / f 8 ≤ 9 from fun z => z ((rel_blunt g).mpr e2)), if_neg (show ¬ ¬ sWorn S ≤ 9 from fun z => z e2)]
      by_cases e3 : kn S = 6
      · rw [if_pos e3, if_pos (show ¬ kn S < 6 by omega)]
      · rw [if_neg e3, if_neg (show ¬ ¬ kn S < 6 by omega), show cpZ f (kn S) d (npS S d) = _ from cpZ_is g hd (by omega)]
        cases tooF (trD S (nI d) (kdr S d)) <;> rfl
    · rw [if_pos (show ¬ 1 + f 9 / f 8 ≤ 9 from fun z => e2 ((rel_blunt g).mp z)), if_pos e2]
theorem rel_why {f : Nat → Int64} {S : Dk} {i : Int32} (g : Rel f S) : mWhy f (kn S) (npS S) i = cWhy S i := by
  have n6 := g.n6
  unfold mWhy cWhy
  by_cases e : inD S i
  · rw [if_pos e, if_pos (show inM (kn S) i from e)]
    obtain ⟨d, hd, rfl, ec⟩ := inM_n (n := kn S) (by omega) e
    rw [ec]
    exact rel_rea g hd
  · rw [if_neg e, if_neg (show ¬ inM (kn S) i from e)]

