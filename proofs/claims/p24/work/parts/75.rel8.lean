/-! the lines of a copy -/
theorem worn_ok {f : Nat → Int64} {S : Dk} (h9 : f 9 = (kf S 5).toInt64) (h8 : f 8 = (ks S 4).toInt64) (r5 : Rg (kf S 5) 0 100000) (r8 : Rg (ks S 4) 1 1000) : ∃ q : Nat, q ≤ 100000 ∧ 1 + f 9 / f 8 = lN (1 + q) ∧ sWorn S = nI (1 + q) ∧ (kf S 5).toInt < 1000 * (q + 1) := by
  obtain ⟨n, hn, en⟩ := rg_n (N := 100000) r5 (by decide)
  obtain ⟨k, hk, ek⟩ := rg_n (x := ks S 4) (N := 1000) ⟨by omega, by omega⟩ (by decide)
  have hk1 : 1 ≤ k := by have := r8.1; rw [ek, nI_toInt (by omega)] at this; omega
  have d1 : n / k ≤ n := Nat.div_le_self _ _
  refine ⟨n / k, by omega, ?_, ?_, ?_⟩
  · rw [h9, h8, en, ek, nI_l (by omega), nI_l (by omega), pk_lDiv (by omega) hk1 (by omega), Nat.add_comm, ← lN_1]
    exact Int64.add_comm _ _
  · unfold sWorn quo
    rw [en, ek, nI_l (by omega), nI_l (by omega), if_neg (fun z => by have := (pk_lLE (a := k) (b := 0) (by omega) (by decide)).mp z; omega), pk_lDiv (by omega) hk1 (by omega), lN_i, Nat.add_comm, ← nI_1]
    exact Int32.add_comm _ _
  · rw [en, nI_toInt (by omega)]
    have z := Nat.div_add_mod n k
    have z2 := Nat.mod_lt n (show 0 < k by omega)
    have z3 : k * (n / k) ≤ 1000 * (n / k) := Nat.mul_le_mul_right _ hk
    omega
/-- while the lines are drawn -/
def LnI (f h : Nat → Int64) (S S' : Dk) (T0 T' : Dr) (kk k : Nat) : Prop := (∀ c, c < 15 + 150 * kn S → c ≠ 14 → c ≠ 9 → c ≠ 11 → c ≠ 12 → c ≠ 13 → h c = f c) ∧ h 14 = lN (kn S + 1) ∧ (h 9 = (kf S' 5).toInt64 ∧ (h 11).toInt32 = kf S' 7 ∧ (h 12).toInt32 = kf S' 8 ∧ (h 13).toInt32 = kf S' 9) ∧ (ks S' = ks S ∧ kn S' = kn S ∧ kdr S' = kdr S ∧ ∀ j, j ≠ 5 → j ≠ 7 → j ≠ 8 → j ≠ 9 → kf S' j = kf S j) ∧ Rg (kf S' 5) 0 (9000 + 2000 * k) ∧ PD h (kn S) T' ∧ (rn T' = rn T0 ∧ rpa T' = rpa T0 ∧ CIv T' kk) ∧ LIv T' ∧ ∀ i, k ≤ i → i < rn T0 → rl T' i = -1 ∨ rl T' i = 0
theorem PE.o {f f' : Nat → Int64} {j : Nat} {d : Dr} (h : PE f j d) (hc : ∀ c, 15 + 150 * j ≤ c → c < 25 + 150 * j → f' c = f c) : PE f' j d := h.congr (fun k hk => hc _ (by unfold hdC; omega) (by unfold hdC; omega))
theorem ln_step {f h : Nat → Int64} {S S' : Dk} {T0 T' : Dr} {kk k : Nat} (g : Rel f S) (hn : kn S ≤ 5) (hkk : kk ≤ 5) (hk : k < rn T0) (I : LnI f h S S' T0 T' kk k) : (h (ceC (kn S) k + 4) = 1 → 1 ≤ k ∧ LnOK (mlA h (kn S) k) (kn S) k) ∧ LnI f (if h (ceC (kn S) k + 4) = 1 then mlF h (kn S) k else h) S (lnS S' T' k) T0 (lnD S' T' k) kk (k + 1) := by
  obtain ⟨i1, i2, ⟨i3, i4, i5, i6⟩, ⟨j1, j2, j3, j4⟩, i7, i8, ⟨k1, k2, k3⟩, k4, k5⟩ := I
  have n20 : rn T' ≤ 20 := k3.2.2.2.2.1
  have hk' : k < rn T' := by omega
  have v := vX_n (d := T') hk' n20
  have p := i8.2 k hk'
  have b := k3.b hkk
  by_cases z : rl T' k = -1
  · have c4 : ¬ h (ceC (kn S) k + 4) = 1 := by rw [p.2.1, if_pos z]; decide
    rw [if_neg c4]
    refine ⟨fun t => absurd t c4, ?_⟩
    have e1 : lnS S' T' k = S' := by unfold lnS; rw [if_pos (by rw [v.2.2]; exact z)]
    have e2 : lnD S' T' k = T' := by unfold lnD; rw [if_pos (by rw [v.2.2]; exact z)]
    rw [e1, e2]
    exact ⟨i1, i2, ⟨i3, i4, i5, i6⟩, ⟨j1, j2, j3, j4⟩, ⟨i7.1, by have := i7.2; omega⟩, i8, ⟨k1, k2, k3⟩, k4, fun i h1 h2 => k5 i (by omega) h2⟩
  · have r0 : rl T' k = 0 := (k5 k (Nat.le_refl k) hk).resolve_left z
    have h1 : 1 ≤ k := by
      rcases Nat.eq_zero_or_pos k with t | t
      · subst t; exact absurd (k4.2 hk') z
      · exact t
    have c4 : h (ceC (kn S) k + 4) = 1 := by rw [p.2.1, if_neg z]
    have p0 := i8.2 (k - 1) (by omega)
    have bk := b.2.2.2 k hk'
    have bk0 := b.2.2.2 (k - 1) (by omega)
    have ep : nI k - 1 = nI (k - 1) := pk_sub (a := k) (b := 1) h1
    have len := len_ok (f := mlA h (kn S) k) (d := kn S) (k := k) ((va_up_ne _ _ (by unfold ceC; omega)).trans p.1.1) ((va_up_ne _ _ (by unfold ceC; omega)).trans p.1.2.1) ((va_up_ne _ _ (by unfold ceC; omega)).trans p.1.2.2.1) ((va_up_ne _ _ (by unfold ceC; omega)).trans p.1.2.2.2) ((va_up_ne _ _ (by unfold ceC; omega)).trans p0.1.1) ((va_up_ne _ _ (by unfold ceC; omega)).trans p0.1.2.1) ((va_up_ne _ _ (by unfold ceC; omega)).trans p0.1.2.2.1) ((va_up_ne _ _ (by unfold ceC; omega)).trans p0.1.2.2.2) b.1.1 (by omega) (bk0.1.w (by decide)) (bk.1.w (by decide)) (bk0.2.w (by decide)) (bk.2.w (by decide))
    rw [if_pos c4]
    refine ⟨fun _ => ⟨h1, len.1⟩, ?_⟩
    have h6 : h 6 = (ks S' 2).toInt64 := by rw [j1]; exact (i1 6 (by omega) (by decide) (by decide) (by decide) (by decide) (by decide)).trans g.h.2.1.2.2.1
    have h7 : h 7 = (ks S' 3).toInt64 := by rw [j1]; exact (i1 7 (by omega) (by decide) (by decide) (by decide) (by decide) (by decide)).trans g.h.2.1.2.2.2.1
    have h8 : h 8 = (ks S' 4).toInt64 := by rw [j1]; exact (i1 8 (by omega) (by decide) (by decide) (by decide) (by decide) (by decide)).trans g.h.2.1.2.2.2.2
    have r2 : Rg (ks S' 2) 10 1000 := by rw [j1]; exact g.r.2.1.2.2.1
    have r3 : Rg (ks S' 3) 10 1000 := by rw [j1]; exact g.r.2.1.2.2.2.1
    have r4 : Rg (ks S' 4) 1 1000 := by rw [j1]; exact g.r.2.1.2.2.2.2
    have o1 := on_eq p h6 h7 r2 r3 b.1.1 b.1.2 (bk.1.w (by decide)) (bk.2.w (by decide)) hk' n20
    have o0 := on_eq p0 h6 h7 r2 r3 b.1.1 b.1.2 (bk0.1.w (by decide)) (bk0.2.w (by decide)) (by omega) n20
    have both : (onB S' T' (nI k - 1) = true ∧ onB S' T' (nI k) = true) ↔ (onP h (kn S) k = true ∧ onP h (kn S) (k - 1) = true) := by
      rw [ep]
      exact ⟨fun t => ⟨o1.1.mpr t.2, o0.1.mpr t.1⟩, fun t => ⟨o0.1.mp t.2, o1.1.mp t.1⟩⟩
    have nz : ¬ vL T' (nI k) = -1 := by rw [v.2.2]; exact z
    by_cases ob : onP h (kn S) k = true ∧ onP h (kn S) (k - 1) = true
    · have eS : lnS S' T' k = (va_up (va_up (va_up (kf S') 5 (kf S' 5 + vLen T' (nI k))) 7 (kf S' 7 + 1)) 8 (kf S' 8 + vLen T' (nI k)), ks S', kn S', kdr S') := by
        unfold lnS; rw [if_neg nz, if_neg (fun t => t (both.mpr ob))]
      have eD : lnD S' T' k = dLine T' k (if 9 < sWorn S' then 9 else sWorn S') := by
        unfold lnD; rw [if_neg nz, if_neg (fun t => t (both.mpr ob))]
      have eF : mlF h (kn S) k = va_up (mlH h (kn S) k) 12 (mlH h (kn S) k 12 + mlH h (kn S) k (ceC (kn S) k + 6)) := by
        unfold mlF; rw [if_pos ob]
      obtain ⟨q, hq, w1, w2, -⟩ := worn_ok i3 h8 ⟨i7.1, by have := i7.2; omega⟩ r4
      -- the width
      obtain ⟨w, hw1, hw9, ew, ec⟩ : ∃ w : Nat, 1 ≤ w ∧ w ≤ 9 ∧ mlW h = lN w ∧ (if 9 < sWorn S' then (9 : Int32) else sWorn S') = nI w := by
        by_cases t : 1 + q ≤ 9
        · refine ⟨1 + q, by omega, t, ?_, ?_⟩
          · unfold mlW; rw [w1, if_pos (show lN (1 + q) ≤ (9 : Int64) from (pk_lLE (a := 1 + q) (b := 9) (by omega) (by decide)).mpr t)]
          · rw [w2, if_neg (fun y => by have := (nI_ltI (a := 9) (b := 1 + q) (by decide) (by omega)).mp y; omega)]
        · refine ⟨9, by omega, by omega, ?_, ?_⟩
          · unfold mlW; rw [w1, if_neg (show ¬ lN (1 + q) ≤ (9 : Int64) from fun y => t ((pk_lLE (a := 1 + q) (b := 9) (by omega) (by decide)).mp y))]; rfl
          · rw [w2, if_pos (show (9 : Int32) < nI (1 + q) from (nI_ltI (a := 9) (b := 1 + q) (by decide) (by omega)).mpr (by omega))]; rfl
      -- the length
      have vl := vLen_n h1 hk' n20 b.1.1 (by omega) (bk0.1.w (by decide)) (bk.1.w (by decide)) (bk0.2.w (by decide)) (bk.2.w (by decide))
      have l1 := o1.2 ob.1
      have l0 := o0.2 ob.2
      generalize hs : ((iX T' k - iX T' (k - 1)).natAbs : Int) + ((iY T' k - iY T' (k - 1)).natAbs : Int) = s at *
      have s0 : 0 ≤ s := by omega
      have s1 : s ≤ 2000 * iP T' := by omega
      have q0 : 0 ≤ s / iP T' := Int.ediv_nonneg s0 (by omega)
      have q1 : s / iP T' ≤ 2000 := Int.ediv_le_of_le_mul b.1.1 s1
      obtain ⟨L, eL⟩ : ∃ L : Nat, s / iP T' = (L : Int) := ⟨(s / iP T').toNat, by omega⟩
      have hL : L ≤ 2000 := by omega
      rw [eL] at vl len
      have eV : vLen T' (nI k) = nI L := vl.trans (lN_i L)
      have eLen : (leN (mlA h (kn S) k) (kn S) k / leD (mlA h (kn S) k) (kn S) k).toInt32.toInt64 = lN L := by
        rw [len.2]
        show (lN L).toInt32.toInt64 = lN L
        rw [lN_i, nI_l (by omega)]
      obtain ⟨u, hu, eu⟩ := rg_n (x := kf S' 5) (N := 9000 + 2000 * k) ⟨i7.1, by have := i7.2; omega⟩ (by omega)
      -- the cells
      have cB : ∀ c, c ≠ ceC (kn S) k + 5 → c ≠ ceC (kn S) k + 6 → mlB h (kn S) k c = h c := fun c a1 a2 => by
        unfold mlB mlA; rw [va_up_ne _ _ a2, va_up_ne _ _ a1]
      have cB6 : mlB h (kn S) k (ceC (kn S) k + 6) = lN L := by unfold mlB; rw [va_up_self]; exact eLen
      have cB5 : mlB h (kn S) k (ceC (kn S) k + 5) = lN w := by unfold mlB mlA; rw [va_up_ne _ _ (by omega), va_up_self]; exact ew
      have cF : ∀ c, c ≠ 9 → c ≠ 11 → c ≠ 12 → mlF h (kn S) k c = mlB h (kn S) k c := fun c a1 a2 a3 => by
        rw [eF, va_up_ne _ _ a3]; unfold mlH; rw [va_up_ne _ _ a2]; unfold mlG; rw [va_up_ne _ _ a1]
      have c9 : mlF h (kn S) k 9 = h 9 + lN L := by
        rw [eF, va_up_ne _ _ (by decide)]; unfold mlH; rw [va_up_ne _ _ (by decide)]; unfold mlG
        rw [va_up_self, cB6, cB 9 (by unfold ceC; omega) (by unfold ceC; omega)]
      have c11 : mlF h (kn S) k 11 = h 11 + 1 := by
        rw [eF, va_up_ne _ _ (by decide)]; unfold mlH; rw [va_up_self]; unfold mlG
        rw [va_up_ne _ _ (by decide), cB 11 (by unfold ceC; omega) (by unfold ceC; omega)]
      have c12 : mlF h (kn S) k 12 = h 12 + lN L := by
        rw [eF, va_up_self]; unfold mlH; rw [va_up_ne _ _ (by decide), va_up_ne _ _ (by unfold ceC; omega)]; unfold mlG
        rw [va_up_ne _ _ (by decide), va_up_ne _ _ (by unfold ceC; omega), cB6, cB 12 (by unfold ceC; omega) (by unfold ceC; omega)]
      have hi : ∀ c, 15 ≤ c → c ≠ ceC (kn S) k + 5 → c ≠ ceC (kn S) k + 6 → mlF h (kn S) k c = h c := fun c a0 a1 a2 => (cF c (by omega) (by omega) (by omega)).trans (cB c a1 a2)
      rw [eS, eD, ec, eV]
      refine ⟨fun c a1 a2 a3 a4 a5 a6 => ?_, ?_, ⟨?_, ?_, ?_, ?_⟩, ⟨j1, j2, j3, fun j a1 a2 a3 a4 => ?_⟩, ?_, ⟨?_, fun i hi2 => ?_⟩, ⟨k1, k2, ?_⟩, ⟨fun i hi2 => ?_, fun _ => ?_⟩, fun i a1 a2 => ?_⟩
      · exact (cF c a3 a4 a5).trans ((cB c (by unfold ceC; omega) (by unfold ceC; omega)).trans (i1 c a1 a2 a3 a4 a5 a6))
      · exact (cF 14 (by decide) (by decide) (by decide)).trans ((cB 14 (by unfold ceC; omega) (by unfold ceC; omega)).trans i2)
      · show mlF h (kn S) k 9 = (kf S' 5 + nI L).toInt64
        rw [c9, i3, eu, nI_add, nI_l (by omega), nI_l (by omega), lN_add]
      · show (mlF h (kn S) k 11).toInt32 = kf S' 7 + 1
        rw [c11, Int64.toInt32_add, i4]; rfl
      · show (mlF h (kn S) k 12).toInt32 = kf S' 8 + nI L
        rw [c12, Int64.toInt32_add, i5, lN_i]
      · show (mlF h (kn S) k 13).toInt32 = kf S' 9
        rw [cF 13 (by decide) (by decide) (by decide), cB 13 (by unfold ceC; omega) (by unfold ceC; omega), i6]
      · show va_up (va_up (va_up (kf S') 5 _) 7 _) 8 _ j = kf S j
        rw [va_up_ne _ _ a3, va_up_ne _ _ a2, va_up_ne _ _ a1]
        exact j4 j a1 a2 a3 a4
      · show 0 ≤ (kf S' 5 + nI L).toInt ∧ (kf S' 5 + nI L).toInt ≤ 9000 + 2000 * ((k + 1 : Nat) : Int)
        rw [eu, nI_add, nI_toInt (by omega)]
        omega
      · exact i8.1.o (fun c a1 a2 => hi c (by omega) (by unfold ceC; omega) (by unfold ceC; omega))
      · have hi3 : i < rn T' := hi2
        have pi := i8.2 i hi3
        by_cases ei : i = k
        · subst ei
          have er : rl (dLine T' i (nI w)) i = nI w := va_up_self _ _ _
          refine ⟨⟨(hi _ (by unfold ceC; omega) (by omega) (by omega)).trans pi.1.1, (hi _ (by unfold ceC; omega) (by omega) (by omega)).trans pi.1.2.1, (hi _ (by unfold ceC; omega) (by omega) (by omega)).trans pi.1.2.2.1, (hi _ (by unfold ceC; omega) (by omega) (by omega)).trans pi.1.2.2.2⟩, ?_, ?_, ?_⟩
          · rw [hi _ (by unfold ceC; omega) (by omega) (by omega), er, c4, if_neg (fun t => by
              have t2 := congrArg Int32.toInt t
              rw [nI_toInt (by omega)] at t2
              have : (-1 : Int32).toInt = -1 := by decide
              omega)]
          · rw [cF _ (by unfold ceC; omega) (by unfold ceC; omega) (by unfold ceC; omega), cB5, er, if_neg (nI_pos (by omega)), nI_l (by omega)]
          · rw [cF _ (by unfold ceC; omega) (by unfold ceC; omega) (by unfold ceC; omega), cB6, er, if_pos (show (0 : Int32) < nI w from (nI_ltI (a := 0) (b := w) (by decide) (by omega)).mpr (by omega)), show vLen (dLine T' i (nI w)) (nI i) = vLen T' (nI i) from rfl, eV, nI_l (by omega)]
        · have er : rl (dLine T' k (nI w)) i = rl T' i := va_up_ne _ _ ei
          have ne : ∀ t, t ≤ 6 → mlF h (kn S) k (ceC (kn S) i + t) = h (ceC (kn S) i + t) := fun t ht => hi _ (by unfold ceC; omega) (by unfold ceC; omega) (by unfold ceC; omega)
          have pc := pi.congr ne
          unfold PP at pc ⊢
          rw [er]
          exact pc
      · exact k3
      · have hi3 : i < rn T' := hi2
        show va_up (rl T') k (nI w) i = -1 ∨ Rg (va_up (rl T') k (nI w) i) 0 9
        by_cases ei : i = k
        · subst ei
          rw [va_up_self]
          refine Or.inr ?_
          show 0 ≤ (nI w).toInt ∧ (nI w).toInt ≤ 9
          rw [nI_toInt (by omega)]; omega
        · rw [va_up_ne _ _ ei]; exact k4.1 i hi3
      · show va_up (rl T') k (nI w) 0 = -1
        rw [va_up_ne _ _ (by omega)]
        exact k4.2 (by omega)
      · show va_up (rl T') k (nI w) i = -1 ∨ va_up (rl T') k (nI w) i = 0
        rw [va_up_ne _ _ (by omega)]
        exact k5 i (by omega) a2
    · have eS : lnS S' T' k = (va_up (kf S') 9 (kf S' 9 + 1), ks S', kn S', kdr S') := by
        unfold lnS; rw [if_neg nz, if_pos (fun t => ob (both.mp t))]
      have eD : lnD S' T' k = T' := by
        unfold lnD; rw [if_neg nz, if_pos (fun t => ob (both.mp t))]
      have eF : mlF h (kn S) k = va_up h 13 (h 13 + 1) := by
        unfold mlF; rw [if_neg ob]
      have hi : ∀ c, c ≠ 13 → mlF h (kn S) k c = h c := fun c a1 => by rw [eF, va_up_ne _ _ a1]
      rw [eS, eD]
      refine ⟨fun c a1 a2 a3 a4 a5 a6 => (hi c a6).trans (i1 c a1 a2 a3 a4 a5 a6), (hi 14 (by decide)).trans i2, ⟨(hi 9 (by decide)).trans i3, ?_, ?_, ?_⟩, ⟨j1, j2, j3, fun j a1 a2 a3 a4 => ?_⟩, ⟨i7.1, by have := i7.2; show (kf S' 5).toInt ≤ _; omega⟩, i8.congr n20 (fun c a1 a2 => hi c (by omega)), ⟨k1, k2, k3⟩, k4, fun i a1 a2 => k5 i (by omega) a2⟩
      · rw [hi 11 (by decide)]; exact i4
      · rw [hi 12 (by decide)]; exact i5
      · show (mlF h (kn S) k 13).toInt32 = kf S' 9 + 1
        rw [eF, va_up_self, Int64.toInt32_add, i6]; rfl
      · show va_up (kf S') 9 _ j = kf S j
        rw [va_up_ne _ _ a4]
        exact j4 j a1 a2 a3 a4
theorem ln_all {f : Nat → Int64} {S : Dk} {d kk : Nat} (g : Rel f S) (hd : d < kn S) (hn : kn S ≤ 5) (hkk : kk ≤ 4) (c : CIv (kdr S d) kk) (hw : sWorn S ≤ 9) : ∀ k, k ≤ rn (kdr S d) → LnI f (cyL (cpF f (kn S) d (rn (kdr S d))) (kn S) k) S (lnAll S (trD S (nI d) (kdr S d)) k).1 (trD S (nI d) (kdr S d)) (lnAll S (trD S (nI d) (kdr S d)) k).2 (kk + 1) k
  | 0, _ => by
    obtain ⟨q, hq, w1, w2, w3⟩ := worn_ok g.h.2.2.1 g.h.2.1.2.2.2.2 g.r.2.2.1 g.r.2.1.2.2.2.2
    rw [w2] at hw
    have hq8 := (nI_leI (a := 1 + q) (b := 9) (by omega) (by decide)).mp hw
    have r5 := g.r.2.2.1
    have lo : ∀ c, c < 15 + 150 * kn S → c ≠ 14 → cpF f (kn S) d (rn (kdr S d)) c = f c := fun c h1 h2 => cpF_lo h1 h2
    refine ⟨fun c a1 a2 _ _ _ _ => lo c a1 a2, ?_, ⟨(lo 9 (by omega) (by decide)).trans g.h.2.2.1, ?_, ?_, ?_⟩, ⟨rfl, rfl, rfl, fun j _ _ _ _ => rfl⟩, ⟨r5.1, by show (kf S 5).toInt ≤ _; omega⟩, tr_PD g hd hn, ⟨rfl, rfl, tr_CI g hd hkk c⟩, ⟨fun i hi => ?_, fun h0 => ?_⟩, fun i _ hi => ?_⟩
    · show cpF f (kn S) d (rn (kdr S d)) 14 = _
      rw [cpF_14, g.h.2.2.2.2.2, lN_1]
    · show (cpF f (kn S) d (rn (kdr S d)) 11).toInt32 = _
      rw [lo 11 (by omega) (by decide)]; exact g.h.2.2.2.2.1.1
    · show (cpF f (kn S) d (rn (kdr S d)) 12).toInt32 = _
      rw [lo 12 (by omega) (by decide)]; exact g.h.2.2.2.2.1.2.1
    · show (cpF f (kn S) d (rn (kdr S d)) 13).toInt32 = _
      rw [lo 13 (by omega) (by decide)]; exact g.h.2.2.2.2.1.2.2
    · have z := trL_is (num := nI d) g hd hi
      show rl (trD S (nI d) (kdr S d)) i = -1 ∨ Rg (rl (trD S (nI d) (kdr S d)) i) 0 9
      rw [z]
      split
      · exact Or.inl rfl
      · exact Or.inr ⟨by decide, by decide⟩
    · show trL (kdr S d) 0 = -1
      exact if_pos rfl
    · have z := trL_is (num := nI d) g hd hi
      show rl (trD S (nI d) (kdr S d)) i = -1 ∨ rl (trD S (nI d) (kdr S d)) i = 0
      rw [z]
      split
      · exact Or.inl rfl
      · exact Or.inr rfl
  | k + 1, hk => (ln_step g hn (by omega) (show k < rn (trD S (nI d) (kdr S d)) from hk) (ln_all g hd hn hkk c hw k (by omega))).2
theorem rsn_0 {S : Dk} {num : Int32} {d : Dr} (h : rsn S num d = 0) : sWorn S ≤ 9 ∧ kn S < 6 := by
  unfold rsn at h
  by_cases e1 : rn d < 1
  · rw [if_pos e1] at h; exact absurd h (by decide)
  · rw [if_neg e1] at h
    by_cases e2 : sWorn S ≤ 9
    · rw [if_neg (show ¬ ¬ sWorn S ≤ 9 from fun z => z e2)] at h
      by_cases e3 : kn S < 6
      · exact ⟨e2, e3⟩
      · rw [if_pos e3] at h; exact absurd h (by decide)
    · rw [if_pos e2] at h; exact absurd h (by decide)
theorem rel_CyOK {f : Nat → Int64} {S : Dk} (g : Rel f S) : ∀ d, d < kn S → mRea f (kn S) (npS S) d = 0 → CyOK f (kn S) d (npS S d) := fun d hd h0 k hk h1 => by
  rw [rel_rea g hd] at h0
  obtain ⟨hw, h6⟩ := rsn_0 h0
  obtain ⟨K, hK⟩ := g.K
  have hkk : K d ≤ 4 := by have := (hK d hd).2.2; omega
  exact (ln_step (T0 := trD S (nI d) (kdr S d)) g (show kn S ≤ 5 by omega) (show K d + 1 ≤ 5 by omega) hk (ln_all g hd (by omega) hkk (hK d hd).1 hw k (Nat.le_of_lt hk))).1 h1
theorem rel_copy {f : Nat → Int64} {S : Dk} {i : Int32} (g : Rel f S) : (mCpy f (kn S) (npS S) i).1 = (cCpy S i).1 ∧ RelA (cCpy S i).2 (mCpy f (kn S) (npS S) i).2 := by
  have n6 := g.n6
  unfold mCpy cCpy
  by_cases e : inD S i
  · rw [if_neg (show ¬ ¬ inM (kn S) i from fun z => z e)]
    try rw [if_neg (show ¬ ¬ inD S i from fun z => z e)]
    obtain ⟨d, hd, rfl, ec⟩ := inM_n (n := kn S) (by omega) e
    rw [ec, rel_rea g hd]
    by_cases e2 : rsn S (nI d) (kdr S d) = 0
    · rw [if_neg (show ¬ ¬ rsn S (nI d) (kdr S d) = 0 from fun z => z e2)]
      try rw [if_neg (show ¬ ¬ rsn S (nI d) (kdr S d) = 0 from fun z => z e2)]
      obtain ⟨hw, h6⟩ := rsn_0 e2
      obtain ⟨K, hK⟩ := g.K
      have hkk : K d ≤ 4 := by have := (hK d hd).2.2; omega
      have I := ln_all g hd (show kn S ≤ 5 by omega) hkk (hK d hd).1 hw (rn (kdr S d)) (Nat.le_refl _)
      have n20 := g.n20 d hd
      refine ⟨rfl, ?_⟩
      show Rel (cyL (cpF f (kn S) d (rn (kdr S d))) (kn S) (rn (kdr S d))) (kepS S (trD S (nI d) (kdr S d)))
      unfold kepS
      show Rel _ (kf (lnAll S (trD S (nI d) (kdr S d)) (rn (kdr S d))).1, ks (lnAll S (trD S (nI d) (kdr S d)) (rn (kdr S d))).1, kn (lnAll S (trD S (nI d) (kdr S d)) (rn (kdr S d))).1 + 1, va_up (kdr (lnAll S (trD S (nI d) (kdr S d)) (rn (kdr S d))).1) (kn (lnAll S (trD S (nI d) (kdr S d)) (rn (kdr S d))).1) (lnAll S (trD S (nI d) (kdr S d)) (rn (kdr S d))).2)
      have CKK : ∀ k2, k2 ≤ 4 → CIv (kdr S d) k2 → CIv (lnAll S (trD S (nI d) (kdr S d)) (rn (kdr S d))).2 (k2 + 1) := fun k2 h2 c2 => (ln_all g hd (show kn S ≤ 5 by omega) h2 c2 hw (rn (kdr S d)) (Nat.le_refl _)).2.2.2.2.2.2.1.2.2
      generalize lnAll S (trD S (nI d) (kdr S d)) (rn (kdr S d)) = A at *
      generalize cyL (cpF f (kn S) d (rn (kdr S d))) (kn S) (rn (kdr S d)) = h at *
      obtain ⟨i1, i2, ⟨i3, i4, i5, i6⟩, ⟨j1, j2, j3, j4⟩, i7, i8, ⟨k1, k2, k3⟩, k4, k5⟩ := I
      rw [j1, j2, j3]
      have lo : ∀ c, c < 9 ∨ c = 10 → h c = f c := fun c hc => i1 c (by omega) (by omega) (by omega) (by omega) (by omega) (by omega)
      have p := g.h
      have r := g.r
      refine g.add h6 (fun c a1 a2 => i1 c a2 (by omega) (by omega) (by omega) (by omega) (by omega)) ⟨⟨?_, ?_, ?_, ?_⟩, ⟨(lo 4 (by decide)).trans p.2.1.1, (lo 5 (by decide)).trans p.2.1.2.1, (lo 6 (by decide)).trans p.2.1.2.2.1, (lo 7 (by decide)).trans p.2.1.2.2.2.1, (lo 8 (by decide)).trans p.2.1.2.2.2.2⟩, i3, ?_, ⟨i4, i5, i6⟩, i2⟩ ⟨⟨?_, ?_, ?_, ?_⟩, r.2.1, ?_, ?_⟩ i8 k4 k3 (fun K2 hK2 _ => ?_)
      · show h 0 = (kf A.1 0).toInt64
        rw [j4 0 (by decide) (by decide) (by decide) (by decide)]; exact (lo 0 (by decide)).trans p.1.1
      · show h 1 = (kf A.1 1).toInt64
        rw [j4 1 (by decide) (by decide) (by decide) (by decide)]; exact (lo 1 (by decide)).trans p.1.2.1
      · show h 2 = (kf A.1 2).toInt64
        rw [j4 2 (by decide) (by decide) (by decide) (by decide)]; exact (lo 2 (by decide)).trans p.1.2.2.1
      · show h 3 = (kf A.1 3).toInt64
        rw [j4 3 (by decide) (by decide) (by decide) (by decide)]; exact (lo 3 (by decide)).trans p.1.2.2.2
      · show h 10 = J (10 - (kf A.1 6).toInt)
        rw [j4 6 (by decide) (by decide) (by decide) (by decide)]; exact (lo 10 (by decide)).trans p.2.2.2.1
      · show Rg (kf A.1 0) 1 20
        rw [j4 0 (by decide) (by decide) (by decide) (by decide)]; exact r.1.1
      · show Rg (kf A.1 1) 1 20
        rw [j4 1 (by decide) (by decide) (by decide) (by decide)]; exact r.1.2.1
      · show Rg (kf A.1 2) 0 1000
        rw [j4 2 (by decide) (by decide) (by decide) (by decide)]; exact r.1.2.2.1
      · show Rg (kf A.1 3) 0 1000
        rw [j4 3 (by decide) (by decide) (by decide) (by decide)]; exact r.1.2.2.2
      · show Rg (kf A.1 5) 0 100000
        exact ⟨i7.1, by have := i7.2; omega⟩
      · show Rg (kf A.1 6) 0 10
        rw [j4 6 (by decide) (by decide) (by decide) (by decide)]; exact r.2.2.2
      · exact ⟨K2 d + 1, CKK _ (by have := Par.le (n := kn S) (fun j hj => (hK2 j hj).2) d hd; omega) (hK2 d hd).1, Or.inr ⟨d, hd, k2, rfl, k1⟩⟩
    · rw [if_pos e2]
      try rw [if_pos e2]
      exact ⟨rfl, trivial⟩
  · rw [if_pos (show ¬ inM (kn S) i from e)]
    try rw [if_pos (show ¬ inD S i from e)]
    exact ⟨rfl, trivial⟩

