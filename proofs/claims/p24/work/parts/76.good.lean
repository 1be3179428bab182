/-! what stays true of the class's state -/
/-- an original as the arm makes it -/
def OI (d : Dr) : Prop := rpa d = -1 → (rsx d = 1 ∧ rsy d = 1) ∧ (rhx d = 0 ∧ rhy d = 0) ∧ ∀ i, i < rn d → (0 ≤ iX d i ∧ 0 ≤ iY d i) ∧ (rl d i = -1 ∨ rl d i = 1)
def TT (S : Dk) (k : Nat) : Prop := (∃ z, z ≤ 40000 * k ∧ kf S 8 = nI z) ∧ ∃ z, z ≤ 20 * k ∧ kf S 9 = nI z
def GI (S : Dk) (k : Nat) : Prop := (∃ f, Rel f S) ∧ (∀ j, j < kn S → OI (kdr S j) ∧ tooF (kdr S j) = false) ∧ TT S k
theorem rel0 : Rel f0 S0 := by
  refine ⟨⟨⟨rfl, rfl, rfl, rfl⟩, ⟨rfl, rfl, rfl, rfl, rfl⟩, rfl, rfl, ⟨rfl, rfl, rfl⟩, rfl⟩, ⟨⟨?_, ?_, ?_, ?_⟩, ⟨?_, ?_, ?_, ?_, ?_⟩, ?_, ?_⟩, Nat.zero_le _, fun j hj => absurd hj (Nat.not_lt_zero j), fun _ => 0, fun j hj => absurd hj (Nat.not_lt_zero j)⟩
  all_goals (constructor <;> decide)
theorem gi0 : GI S0 0 := ⟨⟨f0, rel0⟩, fun j hj => absurd hj (Nat.not_lt_zero j), ⟨0, Nat.le_refl _, rfl⟩, 0, Nat.le_refl _, rfl⟩
theorem GI.mono {S : Dk} {k k' : Nat} (g : GI S k) (h : k ≤ k') : GI S k' := by
  obtain ⟨g1, g2, ⟨z, hz, e⟩, y, hy, e2⟩ := g
  exact ⟨g1, g2, ⟨z, by omega, e⟩, y, by omega, e2⟩
theorem rela_some {S' : Dk} {y : Option (Nat → Int64)} (h : RelA (some S') y) : ∃ f, Rel f S' := by
  cases y with
  | none => exact absurd h id
  | some f => exact ⟨f, h⟩
theorem gi_same {S S' : Dk} {k : Nat} (g : GI S k) (r : ∃ f, Rel f S') (e1 : kn S' = kn S) (e2 : kdr S' = kdr S) (e8 : kf S' 8 = kf S 8) (e9 : kf S' 9 = kf S 9) : GI S' k := by
  refine ⟨r, fun j hj => by rw [e2]; exact g.2.1 j (by omega), ?_, ?_⟩
  · rw [e8]; exact g.2.2.1
  · rw [e9]; exact g.2.2.2
theorem cArm_ok {S : Dk} {x y : Int32} (h1 : okR x 1 20) (h2 : okR y 1 20) : cArm S x y = (100 * kf S 0 + kf S 1, some (va_up (va_up (kf S) 0 x) 1 y, ks S, kn S, kdr S)) := by unfold cArm; rw [if_pos ⟨h1, h2⟩]
theorem gi_arm {S : Dk} {k : Nat} {x y : Int32} (g : GI S k) (h1 : okR x 1 20) (h2 : okR y 1 20) : GI (va_up (va_up (kf S) 0 x) 1 y, ks S, kn S, kdr S) k := by
  obtain ⟨f, r⟩ := g.1
  have z := (rel_arm (x := x) (y := y) r).2
  rw [cArm_ok h1 h2] at z
  exact gi_same g (rela_some z) rfl rfl (by show va_up (va_up (kf S) 0 x) 1 y 8 = _; rw [va_up_ne _ _ (by decide), va_up_ne _ _ (by decide)]) (by show va_up (va_up (kf S) 0 x) 1 y 9 = _; rw [va_up_ne _ _ (by decide), va_up_ne _ _ (by decide)])
theorem cPiv_ok {S : Dk} {x y : Int32} (h1 : okR x 0 1000) (h2 : okR y 0 1000) : cPiv S x y = (10000 * kf S 2 + kf S 3, some (va_up (va_up (kf S) 2 x) 3 y, ks S, kn S, kdr S)) := by unfold cPiv; rw [if_pos ⟨h1, h2⟩]
theorem gi_pivot {S : Dk} {k : Nat} {x y : Int32} (g : GI S k) (h1 : okR x 0 1000) (h2 : okR y 0 1000) : GI (va_up (va_up (kf S) 2 x) 3 y, ks S, kn S, kdr S) k := by
  obtain ⟨f, r⟩ := g.1
  have z := (rel_pivot (x := x) (y := y) r).2
  rw [cPiv_ok h1 h2] at z
  exact gi_same g (rela_some z) rfl rfl (by show va_up (va_up (kf S) 2 x) 3 y 8 = _; rw [va_up_ne _ _ (by decide), va_up_ne _ _ (by decide)]) (by show va_up (va_up (kf S) 2 x) 3 y 9 = _; rw [va_up_ne _ _ (by decide), va_up_ne _ _ (by decide)])
theorem cSet_ok {S : Dk} {j : Nat} {v : Int32} (hj : j < 5) (h : okR v (leastv j) (mostv j)) : cSet S (nI j) v = (ks S j, some (kf S, va_up (ks S) j v, kn S, kdr S)) := by
  have e : (nI j).toNatClampNeg = j := nI_clamp (by omega)
  unfold cSet
  rw [e, if_pos ⟨⟨nI_pos (by omega), fun z => by have := (nI_leI (a := 5) (b := j) (by decide) (by omega)).mp z; omega⟩, h⟩]
theorem gi_set {S : Dk} {k : Nat} {j : Nat} {v : Int32} (g : GI S k) (hj : j < 5) (h : okR v (leastv j) (mostv j)) : GI (kf S, va_up (ks S) j v, kn S, kdr S) k := by
  obtain ⟨f, r⟩ := g.1
  have z := (rel_set (w := nI j) (v := v) r).2
  rw [cSet_ok hj h] at z
  exact gi_same g (rela_some z) rfl rfl rfl rfl
theorem gi_sharpen {S : Dk} {k : Nat} (g : GI S k) (h : 1 ≤ kf S 6) : GI (va_up (va_up (kf S) 6 (kf S 6 - 1)) 5 0, ks S, kn S, kdr S) k := by
  obtain ⟨f, r⟩ := g.1
  have z := (rel_sharpen r).2
  unfold cShp at z
  rw [if_pos h] at z
  exact gi_same g (rela_some z) rfl rfl (by show va_up (va_up (kf S) 6 (kf S 6 - 1)) 5 0 8 = _; rw [va_up_ne _ _ (by decide), va_up_ne _ _ (by decide)]) (by show va_up (va_up (kf S) 6 (kf S 6 - 1)) 5 0 9 = _; rw [va_up_ne _ _ (by decide), va_up_ne _ _ (by decide)])
/-! fineness -/
theorem tfn_c {d d' : Dr} (ep : rpt d' = rpt d) (ex : ∀ i, vX d' i = vX d i) (ey : ∀ i, vY d' i = vY d i) : ∀ n, tfn d' n = tfn d n
  | 0 => rfl
  | n + 1 => by
    unfold tfn
    rw [tfn_c ep ex ey n, ep, ex, ey]
theorem tooF_c {d d' : Dr} (es : rsc d' = rsc d) (ep : rpt d' = rpt d) (en : rn d' = rn d) (eX : rX d' = rX d) (eY : rY d' = rY d) : tooF d' = tooF d := by
  have ex : ∀ i, vX d' i = vX d i := fun i => by unfold vX; rw [en, eX]
  have ey : ∀ i, vY d' i = vY d i := fun i => by unfold vY; rw [en, eY]
  unfold tooF
  rw [es, ep, en, tfn_c ep ex ey]
theorem tfn_all {d : Dr} : ∀ {n : Nat}, (∀ i, i < n → ¬ 100000 < lowL (vX d (nI i)) (rpt d) 1 ∧ ¬ 100000 < lowL (vY d (nI i)) (rpt d) 1) → tfn d n = false
  | 0, _ => rfl
  | n + 1, h => by
    unfold tfn
    rw [tfn_all (fun i hi => h i (by omega)), decide_eq_false (h n (by omega)).1, decide_eq_false (h n (by omega)).2]; rfl
theorem tfn_at {d : Dr} {i : Nat} : ∀ {n : Nat}, tfn d n = false → i < n → ¬ 100000 < lowL (vX d (nI i)) (rpt d) 1 ∧ ¬ 100000 < lowL (vY d (nI i)) (rpt d) 1
  | 0, _, h => absurd h (Nat.not_lt_zero _)
  | n + 1, e, h => by
    unfold tfn at e
    simp only [Bool.or_eq_false_iff, decide_eq_false_iff_not] at e
    by_cases z : i = n
    · subst z; exact e.2
    · exact tfn_at e.1 (by omega)
theorem J_c {n : Int} (h : Ab n 100000000000) : (100000 : Int64) < J n ↔ 100000 < n := J_lt (a := 100000) ⟨by decide, by decide⟩ ⟨by have := h.1; omega, by have := h.2; omega⟩
theorem tooF_org {f : Nat → Int64} {S : Dk} (g : Rel f S) {d : Nat} (hd : d < kn S) (ho : rpa (kdr S d) = -1) : tooF (kdr S d) = false := by
  obtain ⟨c0, ep, es⟩ := org_is g hd ho
  have n20 := g.n20 d hd
  have b := g.b d hd
  have bs : 0 < (rsc (kdr S d)).toInt ∧ (rsc (kdr S d)).toInt ≤ 3200000 := b.2.1
  have bp : 0 < (rpt (kdr S d)).toInt ∧ (rpt (kdr S d)).toInt ≤ 3200000 := b.1
  have ls := low_of (x := rsc (kdr S d)) (p := rpt (kdr S d)) ⟨by omega, by omega⟩ bp.1 (by omega)
  have nl : ∀ z : Int, z = 1 → ¬ (100000 : Int64) < J z := fun z e => by rw [e]; decide
  unfold tooF
  rw [ls.1, ls.2, decide_eq_false (nl _ (by show LN (iS (kdr S d)) (iP (kdr S d)) = 1; rw [es, ep]; exact (LN_1 1).1)), decide_eq_false (nl _ (by show LD (iS (kdr S d)) (iP (kdr S d)) = 1; rw [es, ep]; exact (LN_1 1).2)), tfn_all (fun i hi => ?_)]
  · rfl
  · have v := vX_n hi n20
    have bi := b.2.2.2 i hi
    have lx := low_of (x := rX (kdr S d) i) (p := rpt (kdr S d)) (bi.1.w (by decide)) bp.1 (by omega)
    have ly := low_of (x := rY (kdr S d) i) (p := rpt (kdr S d)) (bi.2.w (by decide)) bp.1 (by omega)
    rw [v.1, v.2.1, lx.2, ly.2]
    exact ⟨nl _ (by show LD (iX (kdr S d) i) (iP (kdr S d)) = 1; rw [ep]; exact (LN_1 _).2), nl _ (by show LD (iY (kdr S d) i) (iP (kdr S d)) = 1; rw [ep]; exact (LN_1 _).2)⟩
theorem gi_of {S : Dk} {k : Nat} (r : ∃ f, Rel f S) (h : ∀ j, j < kn S → OI (kdr S j) ∧ (¬ rpa (kdr S j) = -1 → tooF (kdr S j) = false)) (t : TT S k) : GI S k := by
  obtain ⟨f, g⟩ := r
  refine ⟨⟨f, g⟩, fun j hj => ⟨(h j hj).1, ?_⟩, t⟩
  by_cases e : rpa (kdr S j) = -1
  · exact tooF_org g hj e
  · exact (h j hj).2 e
theorem cDrw_ok {S : Dk} (hn : kn S < 6) : cDrw S = (nI (kn S), some (kf S, ks S, kn S + 1, va_up (kdr S) (kn S) (dBegin (-1) 1 1))) := by unfold cDrw; rw [if_pos hn]
theorem gi_draw {S : Dk} {k : Nat} (g : GI S k) (hn : kn S < 6) : GI (kf S, ks S, kn S + 1, va_up (kdr S) (kn S) (dBegin (-1) 1 1)) k := by
  obtain ⟨f, r⟩ := g.1
  have z := (rel_draw r).2
  rw [cDrw_ok hn] at z
  refine gi_of (rela_some z) (fun j hj => ?_) g.2.2
  show OI (va_up (kdr S) (kn S) (dBegin (-1) 1 1) j) ∧ (¬ rpa (va_up (kdr S) (kn S) (dBegin (-1) 1 1) j) = -1 → tooF (va_up (kdr S) (kn S) (dBegin (-1) 1 1) j) = false)
  by_cases e : j = kn S
  · subst e
    rw [va_up_self]
    exact ⟨fun _ => ⟨⟨rfl, rfl⟩, ⟨rfl, rfl⟩, fun i hi => absurd hi (Nat.not_lt_zero i)⟩, fun z => absurd rfl z⟩
  · rw [va_up_ne _ _ e]
    have hj2 : j < kn S + 1 := hj
    have y := g.2.1 j (by omega)
    exact ⟨y.1, fun _ => y.2⟩
theorem cPnt_ok {S : Dk} {d : Nat} {x y q : Int32} (h6 : kn S ≤ 6) (hd : d < kn S) (ho : rpa (kdr S d) = -1) (hc : ¬ hcp S (nI d) (kn S) = true) (h20 : rn (kdr S d) < 20) (hx : okR x 0 1000) (hy : okR y 0 1000) (hq : okR q 0 1) : cPnt S (nI d) x y q = (nI (rn (kdr S d)), some (kf S, ks S, kn S, va_up (kdr S) d (dAdd (kdr S d) x.toInt64 y.toInt64 (if q = 1 then 1 else -1)))) := by
  have e : (nI d).toNatClampNeg = d := nI_clamp (by omega)
  unfold cPnt
  rw [e, if_neg (fun z => z ⟨jin h6 hd, hx, hy, hq⟩), if_neg (fun z => z.elim (fun z => z ho) hc), if_neg (fun z => z h20)]
theorem ok_i {x : Int32} (h : okR x 0 1000) : 0 ≤ x.toInt := by
  have := h.1
  rw [Int32.lt_iff_toInt_lt] at this
  have e : (0 : Int32).toInt = 0 := by decide
  omega
theorem gi_point {S : Dk} {k d : Nat} {x y q : Int32} (g : GI S k) (hd : d < kn S) (ho : rpa (kdr S d) = -1) (hc : ¬ hcp S (nI d) (kn S) = true) (h20 : rn (kdr S d) < 20) (hx : okR x 0 1000) (hy : okR y 0 1000) (hq : okR q 0 1) : GI (kf S, ks S, kn S, va_up (kdr S) d (dAdd (kdr S d) x.toInt64 y.toInt64 (if q = 1 then 1 else -1))) k := by
  obtain ⟨f, r⟩ := g.1
  have z := (rel_point (i := nI d) (x := x) (y := y) (q := q) r).2
  rw [cPnt_ok r.n6 hd ho hc h20 hx hy hq] at z
  refine gi_of (rela_some z) (fun j hj => ?_) g.2.2
  have hql : (if q = 1 then (1 : Int32) else -1) = -1 ∨ (if q = 1 then (1 : Int32) else -1) = 1 := by
    by_cases e : q = 1
    · rw [if_pos e]; exact Or.inr rfl
    · rw [if_neg e]; exact Or.inl rfl
  generalize (if q = 1 then (1 : Int32) else -1) = ql at hql ⊢
  show OI (va_up (kdr S) d (dAdd (kdr S d) x.toInt64 y.toInt64 ql) j) ∧ (¬ rpa (va_up (kdr S) d (dAdd (kdr S d) x.toInt64 y.toInt64 ql) j) = -1 → tooF (va_up (kdr S) d (dAdd (kdr S d) x.toInt64 y.toInt64 ql) j) = false)
  by_cases e : j = d
  · subst e
    rw [va_up_self]
    obtain ⟨o1, o2, o3⟩ := (g.2.1 j hd).1 ho
    refine ⟨fun _ => ⟨o1, o2, fun i hi => ?_⟩, fun z => absurd ho z⟩
    have hi2 : i < rn (kdr S j) + 1 := hi
    by_cases ei : i = rn (kdr S j)
    · rw [ei]
      have n := dAdd_n (d := kdr S j) (x := x.toInt64) (y := y.toInt64) (l := ql)
      rw [n.1, n.2.1, n.2.2, Int32.toInt_toInt64, Int32.toInt_toInt64]
      refine ⟨⟨ok_i hx, ok_i hy⟩, ?_⟩
      split
      · exact Or.inl rfl
      · exact hql
    · have n := dAdd_o (d := kdr S j) (x := x.toInt64) (y := y.toInt64) (l := ql) (show i < rn (kdr S j) by omega)
      rw [n.1, n.2.1, n.2.2]
      exact o3 i (by omega)
  · rw [va_up_ne _ _ e]
    have y := g.2.1 j hj
    exact ⟨y.1, fun _ => y.2⟩
theorem cRem_ok {S : Dk} {d : Nat} (h6 : kn S ≤ 6) (hd : d < kn S) (hc : ¬ hcp S (nI d) (kn S) = true) : cRem S (nI d) = (nI (kn S - 1), some (rmS S d (kn S - 1))) := by
  have e : (nI d).toNatClampNeg = d := nI_clamp (by omega)
  unfold cRem
  rw [e, if_neg (fun z => z (jin h6 hd)), if_neg hc]
theorem dec_OI {d : Nat} {dr : Dr} (hd : d < 6) (h : OI dr) : OI (decD (nI d) dr) := by
  unfold decD
  by_cases e : nI d < rpa dr
  · rw [if_pos e]
    intro z
    exfalso
    have z2 : rpa dr - 1 = -1 := z
    have z3 : rpa dr = 0 := by
      have := congrArg (· + 1) z2
      simpa using this
    rw [z3] at e
    have := Int32.lt_iff_toInt_lt.mp e
    rw [nI_toInt (by omega)] at this
    have e0 : (0 : Int32).toInt = 0 := by decide
    omega
  · rw [if_neg e]; exact h
theorem dec_tooF {n : Int32} {dr : Dr} : tooF (decD n dr) = tooF dr := by
  unfold decD
  split
  · exact tooF_c rfl rfl rfl rfl rfl
  · rfl
theorem gi_remove {S : Dk} {k d : Nat} (g : GI S k) (hd : d < kn S) (hc : ¬ hcp S (nI d) (kn S) = true) : GI (rmS S d (kn S - 1)) k := by
  obtain ⟨f, r⟩ := g.1
  have n6 := r.n6
  have z := (rel_remove (i := nI d) r).2
  rw [cRem_ok n6 hd hc] at z
  refine ⟨rela_some z, fun j hj => ?_, g.2.2⟩
  have hj2 : j < kn S - 1 := hj
  have e : kdr (rmS S d (kn S - 1)) j = decD (nI d) (kdr S (shf d j)) := if_pos hj2
  have hs : shf d j < kn S := by unfold shf; split <;> omega
  rw [e, dec_tooF]
  have y := g.2.1 _ hs
  exact ⟨dec_OI (by omega) y.1, y.2⟩
/-! drawing the lines of a copy -/
theorem ln_cases {f h : Nat → Int64} {S S' : Dk} {T0 T' : Dr} {kk k : Nat} (g : Rel f S) (hn : kn S ≤ 5) (hkk : kk ≤ 5) (hk : k < rn T0) (I : LnI f h S S' T0 T' kk k) :
    (rl T' k = -1 ∧ lnS S' T' k = S' ∧ lnD S' T' k = T') ∨ (rl T' k = 0 ∧ 1 ≤ k ∧ ((∃ L w : Nat, L ≤ 2000 ∧ 1 ≤ w ∧ w ≤ 9 ∧ vLen T' (nI k) = nI L ∧ lnS S' T' k = (va_up (va_up (va_up (kf S') 5 (kf S' 5 + nI L)) 7 (kf S' 7 + 1)) 8 (kf S' 8 + nI L), ks S', kn S', kdr S') ∧ lnD S' T' k = dLine T' k (nI w)) ∨ (lnS S' T' k = (va_up (kf S') 9 (kf S' 9 + 1), ks S', kn S', kdr S') ∧ lnD S' T' k = T'))) := by
  obtain ⟨i1, i2, ⟨i3, i4, i5, i6⟩, ⟨j1, j2, j3, j4⟩, i7, i8, ⟨k1, k2, k3⟩, k4, k5⟩ := I
  have n20 : rn T' ≤ 20 := k3.2.2.2.2.1
  have hk' : k < rn T' := by omega
  have v := vX_n (d := T') hk' n20
  have p := i8.2 k hk'
  have b := k3.b hkk
  by_cases z : rl T' k = -1
  · refine Or.inl ⟨z, ?_, ?_⟩
    · unfold lnS; rw [if_pos (by rw [v.2.2]; exact z)]
    · unfold lnD; rw [if_pos (by rw [v.2.2]; exact z)]
  · have r0 : rl T' k = 0 := (k5 k (Nat.le_refl k) hk).resolve_left z
    have h1 : 1 ≤ k := by
      rcases Nat.eq_zero_or_pos k with t | t
      · subst t; exact absurd (k4.2 hk') z
      · exact t
    refine Or.inr ⟨r0, h1, ?_⟩
    have p0 := i8.2 (k - 1) (by omega)
    have bk := b.2.2.2 k hk'
    have bk0 := b.2.2.2 (k - 1) (by omega)
    have ep : nI k - 1 = nI (k - 1) := pk_sub (a := k) (b := 1) h1
    have h6 : h 6 = (ks S' 2).toInt64 := by rw [j1]; exact (i1 6 (by omega) (by decide) (by decide) (by decide) (by decide) (by decide)).trans g.h.2.1.2.2.1
    have h7 : h 7 = (ks S' 3).toInt64 := by rw [j1]; exact (i1 7 (by omega) (by decide) (by decide) (by decide) (by decide) (by decide)).trans g.h.2.1.2.2.2.1
    have h8 : h 8 = (ks S' 4).toInt64 := by rw [j1]; exact (i1 8 (by omega) (by decide) (by decide) (by decide) (by decide) (by decide)).trans g.h.2.1.2.2.2.2
    have r2 : Rg (ks S' 2) 10 1000 := by rw [j1]; exact g.r.2.1.2.2.1
    have r3 : Rg (ks S' 3) 10 1000 := by rw [j1]; exact g.r.2.1.2.2.2.1
    have r4 : Rg (ks S' 4) 1 1000 := by rw [j1]; exact g.r.2.1.2.2.2.2
    have o1 := on_eq p h6 h7 r2 r3 b.1.1 b.1.2 (bk.1.w (by decide)) (bk.2.w (by decide)) hk' n20
    have o0 := on_eq p0 h6 h7 r2 r3 b.1.1 b.1.2 (bk0.1.w (by decide)) (bk0.2.w (by decide)) (by omega) n20
    have nz : ¬ vL T' (nI k) = -1 := by rw [v.2.2]; exact z
    by_cases ob : onB S' T' (nI k - 1) = true ∧ onB S' T' (nI k) = true
    · refine Or.inl ?_
      obtain ⟨q, hq, w1, w2, -⟩ := worn_ok i3 h8 ⟨i7.1, by have := i7.2; omega⟩ r4
      obtain ⟨w, hw1, hw9, ec⟩ : ∃ w : Nat, 1 ≤ w ∧ w ≤ 9 ∧ (if 9 < sWorn S' then (9 : Int32) else sWorn S') = nI w := by
        by_cases t : 1 + q ≤ 9
        · refine ⟨1 + q, by omega, t, ?_⟩
          rw [w2, if_neg (fun y => by have := (nI_ltI (a := 9) (b := 1 + q) (by decide) (by omega)).mp y; omega)]
        · refine ⟨9, by omega, by omega, ?_⟩
          rw [w2, if_pos (show (9 : Int32) < nI (1 + q) from (nI_ltI (a := 9) (b := 1 + q) (by decide) (by omega)).mpr (by omega))]; rfl
      have vl := vLen_n h1 hk' n20 b.1.1 (by omega) (bk0.1.w (by decide)) (bk.1.w (by decide)) (bk0.2.w (by decide)) (bk.2.w (by decide))
      have l1 := o1.2 (o1.1.mpr ob.2)
      have l0 := o0.2 (o0.1.mpr (by rw [← ep]; exact ob.1))
      generalize hs : ((iX T' k - iX T' (k - 1)).natAbs : Int) + ((iY T' k - iY T' (k - 1)).natAbs : Int) = s at *
      have s0 : 0 ≤ s := by omega
      have s1 : s ≤ 2000 * iP T' := by omega
      have q0 : 0 ≤ s / iP T' := Int.ediv_nonneg s0 (by omega)
      have q1 : s / iP T' ≤ 2000 := Int.ediv_le_of_le_mul b.1.1 s1
      obtain ⟨L, eL⟩ : ∃ L : Nat, s / iP T' = (L : Int) := ⟨(s / iP T').toNat, by omega⟩
      have hL : L ≤ 2000 := by omega
      rw [eL] at vl
      have eV : vLen T' (nI k) = nI L := vl.trans (lN_i L)
      refine ⟨L, w, hL, hw1, hw9, eV, ?_, ?_⟩
      · unfold lnS; rw [if_neg nz, if_neg (fun t => t ob), eV]
      · unfold lnD; rw [if_neg nz, if_neg (fun t => t ob), ec]
    · refine Or.inr ⟨?_, ?_⟩
      · unfold lnS; rw [if_neg nz, if_pos ob]
      · unfold lnD; rw [if_neg nz, if_pos ob]
/-- how many of the first points are joined -/
def jnN (d : Dr) : Nat → Nat
  | 0 => 0
  | j + 1 => jnN d j + (if rl d j = -1 then 0 else 1)
theorem jnN_le (d : Dr) : ∀ j, jnN d j ≤ j
  | 0 => Nat.le_refl 0
  | j + 1 => by have h := jnN_le d j; unfold jnN; split <;> omega
theorem cntW_c {d d' : Dr} : ∀ {k : Nat}, (∀ j, j < k → vL d' (nI j) = vL d (nI j)) → cntW d' k = cntW d k
  | 0, _ => rfl
  | k + 1, h => by
    unfold cntW
    rw [cntW_c (fun j hj => h j (by omega)), show vW d' (nI k) = vW d (nI k) from by unfold vW; rw [h k (by omega)]]
theorem sumW_c {d d' : Dr} : ∀ {k : Nat}, (∀ j, j < k → vL d' (nI j) = vL d (nI j) ∧ vLen d' (nI j) = vLen d (nI j)) → sumW d' k = sumW d k
  | 0, _ => rfl
  | k + 1, h => by
    unfold sumW
    rw [sumW_c (fun j hj => h j (by omega)), show vW d' (nI k) = vW d (nI k) from by unfold vW; rw [(h k (by omega)).1], (h k (by omega)).2]
/-- the same drawing but for its lines -/
def SmL (d d' : Dr) : Prop := (rpa d' = rpa d ∧ rsc d' = rsc d ∧ rpt d' = rpt d ∧ rsx d' = rsx d ∧ rsy d' = rsy d) ∧ (rhx d' = rhx d ∧ rhy d' = rhy d) ∧ rn d' = rn d ∧ rX d' = rX d ∧ rY d' = rY d
/-- what is drawn so far -/
def LnT (S S' : Dk) (T0 T' : Dr) (k : Nat) : Prop := SmL T0 T' ∧ (∀ i, i < rn T0 → (rl T' i = -1 ↔ rl T0 i = -1)) ∧ (kf S' 7 = kf S 7 + nI (cntW T' k) ∧ kf S' 8 = kf S 8 + sumW T' k ∧ kf S' 5 = kf S 5 + sumW T' k ∧ kf S' 9 + nI (cntW T' k) = kf S 9 + nI (jnN T0 k)) ∧ ∃ z, z ≤ 2000 * k ∧ sumW T' k = nI z
