/-! what a copy is -/
theorem vW_z {d : Dr} {x : Int32} (h : vL d x = -1 ∨ vL d x = 0) : ¬ 0 < vW d x := by
  unfold vW
  rcases h with h | h <;> rw [h] <;> decide
theorem vW_p {d : Dr} {x : Int32} {w : Nat} (h : vL d x = nI w) (h1 : 1 ≤ w) (h9 : w ≤ 9) : 0 < vW d x ∧ vW d x = nI w := by
  have e : vW d x = nI w := by unfold vW; rw [h, if_neg (nI_pos (by omega))]
  exact ⟨by rw [e]; exact (nI_ltI (a := 0) (b := w) (by decide) (by omega)).mpr (by omega), e⟩
theorem cnt_0 {d : Dr} {k : Nat} (h : ¬ 0 < vW d (nI k)) : cntW d (k + 1) = cntW d k ∧ sumW d (k + 1) = sumW d k := by
  constructor
  · show cntW d k + (if 0 < vW d (nI k) then 1 else 0) = _
    rw [if_neg h]; rfl
  · show (if 0 < vW d (nI k) then _ else _) = _
    rw [if_neg h]
theorem cnt_1 {d : Dr} {k : Nat} (h : 0 < vW d (nI k)) : cntW d (k + 1) = cntW d k + 1 ∧ sumW d (k + 1) = sumW d k + vLen d (nI k) := by
  constructor
  · show cntW d k + (if 0 < vW d (nI k) then 1 else 0) = _
    rw [if_pos h]
  · show (if 0 < vW d (nI k) then _ else _) = _
    rw [if_pos h]
theorem jn_0 {d : Dr} {k : Nat} (h : rl d k = -1) : jnN d (k + 1) = jnN d k := by
  show jnN d k + (if rl d k = -1 then 0 else 1) = _
  rw [if_pos h]; rfl
theorem jn_1 {d : Dr} {k : Nat} (h : ¬ rl d k = -1) : jnN d (k + 1) = jnN d k + 1 := by
  show jnN d k + (if rl d k = -1 then 0 else 1) = _
  rw [if_neg h]
theorem jn_c {d d' : Dr} : ∀ {k : Nat}, (∀ i, i < k → (rl d' i = -1 ↔ rl d i = -1)) → jnN d' k = jnN d k
  | 0, _ => rfl
  | k + 1, h => by
    have e := jn_c (k := k) (fun i hi => h i (by omega))
    have hk := h k (by omega)
    by_cases z : rl d k = -1
    · rw [jn_0 z, jn_0 (hk.mpr z), e]
    · rw [jn_1 z, jn_1 (fun y => z (hk.mp y)), e]
theorem cnt_jn {d : Dr} (h20 : rn d ≤ 20) : ∀ n, n ≤ rn d → cntW d n ≤ jnN d n
  | 0, _ => Nat.le_refl _
  | n + 1, h => by
    have ih := cnt_jn h20 n (by omega)
    have v := vX_n (d := d) (i := n) (by omega) h20
    by_cases z : rl d n = -1
    · rw [jn_0 z, (cnt_0 (vW_z (Or.inl (v.2.2.trans z)))).1]; exact ih
    · rw [jn_1 z]
      by_cases w : 0 < vW d (nI n)
      · rw [(cnt_1 w).1]; omega
      · rw [(cnt_0 w).1]; omega
theorem SmL.rf (d : Dr) : SmL d d := ⟨⟨rfl, rfl, rfl, rfl, rfl⟩, ⟨rfl, rfl⟩, rfl, rfl, rfl⟩
theorem lnT_all {f : Nat → Int64} {S : Dk} {d kk : Nat} (g : Rel f S) (hd : d < kn S) (hn : kn S ≤ 5) (hkk : kk ≤ 4) (c : CIv (kdr S d) kk) (hw : sWorn S ≤ 9) : ∀ k, k ≤ rn (kdr S d) → LnT S (lnAll S (trD S (nI d) (kdr S d)) k).1 (trD S (nI d) (kdr S d)) (lnAll S (trD S (nI d) (kdr S d)) k).2 k
  | 0, _ => ⟨SmL.rf _, fun _ _ => Iff.rfl, ⟨(Int32.add_zero _).symm, (Int32.add_zero _).symm, (Int32.add_zero _).symm, rfl⟩, 0, Nat.le_refl _, rfl⟩
  | k + 1, hk => by
    have I := ln_all g hd hn hkk c hw k (by omega)
    have J0 := lnT_all g hd hn hkk c hw k (by omega)
    have hk0 : k < rn (trD S (nI d) (kdr S d)) := hk
    have cs := ln_cases g hn (show kk + 1 ≤ 5 by omega) hk0 I
    have n20 := g.n20 d hd
    show LnT S (lnS (lnAll S (trD S (nI d) (kdr S d)) k).1 (lnAll S (trD S (nI d) (kdr S d)) k).2 k) (trD S (nI d) (kdr S d)) (lnD (lnAll S (trD S (nI d) (kdr S d)) k).1 (lnAll S (trD S (nI d) (kdr S d)) k).2 k) (k + 1)
    generalize lnAll S (trD S (nI d) (kdr S d)) k = A at *
    obtain ⟨S', T'⟩ := A
    generalize trD S (nI d) (kdr S d) = T0 at *
    simp only [] at *
    obtain ⟨sm, lj, ⟨e7, e8, e5, e9⟩, z, hz, ez⟩ := J0
    have hk' : k < rn T' := by rw [sm.2.2.1]; exact hk0
    have n20' : rn T' ≤ 20 := I.2.2.2.2.2.2.1.2.2.2.2.2.2.1
    have v := vX_n (d := T') hk' n20'
    rcases cs with ⟨c1, c2, c3⟩ | ⟨c1, h1, ⟨L, w, hL, w1, w9, c2, c3, c4⟩ | ⟨c2, c3⟩⟩
    · rw [c2, c3]
      have q := cnt_0 (d := T') (k := k) (vW_z (Or.inl (v.2.2.trans c1)))
      refine ⟨sm, lj, ?_, z, by omega, by rw [q.2]; exact ez⟩
      rw [q.1, q.2, jn_0 ((lj k hk0).mp c1)]
      exact ⟨e7, e8, e5, e9⟩
    · have nm : ¬ rl T0 k = -1 := fun t => by
        have := (lj k hk0).mpr t
        rw [c1] at this; exact absurd this (by decide)
      rw [c3, c4]
      have vo : ∀ j, j < k → vL (dLine T' k (nI w)) (nI j) = vL T' (nI j) := fun j hj => by
        have a1 := vX_n (d := dLine T' k (nI w)) (i := j) (show j < rn T' by omega) n20'
        have a2 := vX_n (d := T') (i := j) (by omega) n20'
        rw [a1.2.2, a2.2.2]
        exact va_up_ne _ _ (by omega)
      have vk : vL (dLine T' k (nI w)) (nI k) = nI w := by
        have a1 := vX_n (d := dLine T' k (nI w)) (i := k) hk' n20'
        rw [a1.2.2]
        exact va_up_self _ _ _
      have q := cnt_1 (d := dLine T' k (nI w)) (k := k) (vW_p vk w1 w9).1
      have q1 := cntW_c (d := T') (d' := dLine T' k (nI w)) vo
      have q2 := sumW_c (d := T') (d' := dLine T' k (nI w)) (k := k) (fun j hj => ⟨vo j hj, rfl⟩)
      have q3 : vLen (dLine T' k (nI w)) (nI k) = nI L := c2
      refine ⟨sm, fun i hi => ?_, ?_, z + L, by omega, by rw [q.2, q2, q3, ez, nI_add]⟩
      · by_cases ei : i = k
        · subst ei
          have er : rl (dLine T' i (nI w)) i = nI w := va_up_self _ _ _
          rw [er]
          refine ⟨fun t => ?_, fun t => absurd t nm⟩
          have t2 := congrArg Int32.toInt t
          rw [nI_toInt (by omega)] at t2
          have : (-1 : Int32).toInt = -1 := by decide
          omega
        · have er : rl (dLine T' k (nI w)) i = rl T' i := va_up_ne _ _ ei
          rw [er]; exact lj i hi
      · rw [q.1, q.2, q1, q2, q3, jn_1 nm]
        refine ⟨?_, ?_, ?_, ?_⟩
        · show va_up (va_up (va_up (kf S') 5 (kf S' 5 + nI L)) 7 (kf S' 7 + 1)) 8 (kf S' 8 + nI L) 7 = _
          rw [va_up_ne _ _ (by decide), va_up_self, e7, ← nI_1, Int32.add_assoc]
        · show va_up (va_up (va_up (kf S') 5 (kf S' 5 + nI L)) 7 (kf S' 7 + 1)) 8 (kf S' 8 + nI L) 8 = _
          rw [va_up_self, e8, Int32.add_assoc]
        · show va_up (va_up (va_up (kf S') 5 (kf S' 5 + nI L)) 7 (kf S' 7 + 1)) 8 (kf S' 8 + nI L) 5 = _
          rw [va_up_ne _ _ (by decide), va_up_ne _ _ (by decide), va_up_self, e5, Int32.add_assoc]
        · show va_up (va_up (va_up (kf S') 5 (kf S' 5 + nI L)) 7 (kf S' 7 + 1)) 8 (kf S' 8 + nI L) 9 + _ = _
          rw [va_up_ne _ _ (by decide), va_up_ne _ _ (by decide), va_up_ne _ _ (by decide), ← nI_1, ← nI_1, ← Int32.add_assoc, ← Int32.add_assoc, e9]
    · have nm : ¬ rl T0 k = -1 := fun t => by
        have := (lj k hk0).mpr t
        rw [c1] at this; exact absurd this (by decide)
      rw [c2, c3]
      have q := cnt_0 (d := T') (k := k) (vW_z (Or.inr (v.2.2.trans c1)))
      refine ⟨sm, lj, ?_, z, by omega, by rw [q.2]; exact ez⟩
      rw [q.1, q.2, jn_1 nm]
      refine ⟨e7, e8, e5, ?_⟩
      show kf S' 9 + 1 + _ = _
      rw [Int32.add_assoc, Int32.add_comm 1, ← Int32.add_assoc, e9, Int32.add_assoc, nI_1]
theorem tooF_no {S : Dk} {num : Int32} {d : Dr} (h : rsn S num d = 0) : tooF (trD S num d) = false := by
  have z := rsn_0 h
  unfold rsn at h
  by_cases e1 : rn d < 1
  · rw [if_pos e1] at h; exact absurd h (by decide)
  · rw [if_neg e1, if_neg (fun y => y z.1), if_neg (fun y => y z.2)] at h
    by_cases e : tooF (trD S num d) = true
    · rw [if_pos e] at h; exact absurd h (by decide)
    · exact Bool.eq_false_iff.mpr e
/-- a copy that is made: the state behind it -/
def CpF (S S' : Dk) (d k : Nat) (T' : Dr) : Prop := (kn S < 6 ∧ kn S' = kn S + 1 ∧ ks S' = ks S) ∧ (∀ j, j ≠ 5 → j ≠ 7 → j ≠ 8 → j ≠ 9 → kf S' j = kf S j) ∧ ((∀ j, j < kn S → kdr S' j = kdr S j) ∧ kdr S' (kn S) = T') ∧ SmL (trD S (nI d) (kdr S d)) T' ∧ (∀ i, i < rn (kdr S d) → (rl T' i = -1 ↔ rl (kdr S d) i = -1)) ∧ (kf S' 7 = kf S 7 + nI (cntW T' (rn (kdr S d))) ∧ kf S' 8 = kf S 8 + sumW T' (rn (kdr S d)) ∧ kf S' 5 = kf S 5 + sumW T' (rn (kdr S d)) ∧ kf S' 9 + nI (cntW T' (rn (kdr S d))) = kf S 9 + nI (jnN T' (rn (kdr S d)))) ∧ GI S' (k + 1)
theorem cpF_all {S : Dk} {k d : Nat} (g : GI S k) (hd : d < kn S) (h0 : rsn S (nI d) (kdr S d) = 0) : ∃ T', CpF S (kepS S (trD S (nI d) (kdr S d))) d k T' := by
  obtain ⟨⟨f, r⟩, g2, t8, t9⟩ := id g
  obtain ⟨hw, h6⟩ := rsn_0 h0
  obtain ⟨K, hK⟩ := r.K
  have hkk : K d ≤ 4 := by have := (hK d hd).2.2; omega
  have z := (rel_copy (i := nI d) r).2
  have ed : (nI d).toNatClampNeg = d := nI_clamp (by omega)
  have ec : cCpy S (nI d) = (nI (kn S), some (kepS S (trD S (nI d) (kdr S d)))) := by
    unfold cCpy
    rw [ed, if_neg (fun z => z (jin r.n6 hd)), if_neg (fun z => z h0)]
  rw [ec] at z
  have rr := rela_some z
  have I := ln_all r hd (show kn S ≤ 5 by omega) hkk (hK d hd).1 hw (rn (kdr S d)) (Nat.le_refl _)
  have L := lnT_all r hd (show kn S ≤ 5 by omega) hkk (hK d hd).1 hw (rn (kdr S d)) (Nat.le_refl _)
  have tl := fun i hi => trL_is (num := nI d) (i := i) r hd hi
  have tf := tooF_no h0
  have n20 := r.n20 d hd
  have cl := jnN_le (trD S (nI d) (kdr S d)) (rn (kdr S d))
  have ek : kepS S (trD S (nI d) (kdr S d)) = (kf (lnAll S (trD S (nI d) (kdr S d)) (rn (kdr S d))).1, ks (lnAll S (trD S (nI d) (kdr S d)) (rn (kdr S d))).1, kn (lnAll S (trD S (nI d) (kdr S d)) (rn (kdr S d))).1 + 1, va_up (kdr (lnAll S (trD S (nI d) (kdr S d)) (rn (kdr S d))).1) (kn (lnAll S (trD S (nI d) (kdr S d)) (rn (kdr S d))).1) (lnAll S (trD S (nI d) (kdr S d)) (rn (kdr S d))).2) := rfl
  rw [ek] at rr ⊢
  have et : rn (trD S (nI d) (kdr S d)) = rn (kdr S d) ∧ rpa (trD S (nI d) (kdr S d)) = nI d := ⟨rfl, rfl⟩
  generalize lnAll S (trD S (nI d) (kdr S d)) (rn (kdr S d)) = A at *
  obtain ⟨S', T'⟩ := A
  simp only [] at *
  obtain ⟨-, -, -, ⟨j1, j2, j3, j4⟩, -, -, -, -, -⟩ := I
  obtain ⟨sm, lj, ⟨e7, e8, e5, e9⟩, y, hy, ey⟩ := L
  have jt : jnN T' (rn (kdr S d)) = jnN (trD S (nI d) (kdr S d)) (rn (kdr S d)) := jn_c lj
  have d0 : ∀ j, j < kn S → va_up (kdr S') (kn S') T' j = kdr S j := fun j hj => by rw [va_up_ne _ _ (by omega), j3]
  have d1 : va_up (kdr S') (kn S') T' (kn S) = T' := by rw [j2, va_up_self]
  refine ⟨T', ⟨h6, by show kn S' + 1 = _; omega, j1⟩, j4, ⟨d0, d1⟩, sm, fun i hi => ?_, ⟨e7, e8, e5, by rw [jt]; exact e9⟩, ⟨rr, fun j hj => ?_, ?_, ?_⟩⟩
  · rw [lj i hi, tl i hi]
    by_cases t : rl (kdr S d) i = -1
    · rw [if_pos t]; exact ⟨fun _ => t, fun _ => rfl⟩
    · rw [if_neg t]; exact ⟨fun q => absurd q (by decide), fun q => absurd q t⟩
  · show OI (va_up (kdr S') (kn S') T' j) ∧ tooF (va_up (kdr S') (kn S') T' j) = false
    have hj2 : j < kn S' + 1 := hj
    by_cases e : j = kn S
    · subst e
      rw [d1]
      refine ⟨fun q => ?_, ?_⟩
      · exfalso
        rw [sm.1.1, et.2] at q
        have t2 := congrArg Int32.toInt q
        rw [nI_toInt (by omega)] at t2
        have : (-1 : Int32).toInt = -1 := by decide
        omega
      · rw [tooF_c sm.1.2.1 sm.1.2.2.1 sm.2.2.1 sm.2.2.2.1 sm.2.2.2.2]; exact tf
    · rw [d0 j (by omega)]; exact g2 j (by omega)
  · obtain ⟨q, hq, eq⟩ := t8
    exact ⟨q + y, by omega, by show kf S' 8 = _; rw [e8, eq, ey, nI_add]⟩
  · obtain ⟨q, hq, eq⟩ := t9
    have cj := cntW_le T' (rn (kdr S d))
    have cl2 : cntW T' (rn (kdr S d)) ≤ jnN (trD S (nI d) (kdr S d)) (rn (kdr S d)) := by
      rw [← jt]
      exact cnt_jn (by rw [sm.2.2.1, et.1]; exact n20) _ (by rw [sm.2.2.1, et.1]; exact Nat.le_refl _)
    refine ⟨q + (jnN (trD S (nI d) (kdr S d)) (rn (kdr S d)) - cntW T' (rn (kdr S d))), by omega, ?_⟩
    show kf S' 9 = _
    have e : kf S' 9 = kf S 9 + nI (jnN (trD S (nI d) (kdr S d)) (rn (kdr S d))) - nI (cntW T' (rn (kdr S d))) := by rw [← e9]; exact (Int32.add_sub_cancel _ _).symm
    rw [e, eq, nI_add, pk_sub (by omega)]
    congr 1; omega
