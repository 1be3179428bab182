/-! the text, read twice -/
abbrev ChOK (cs : Nat → Int32) (n : Nat) : Prop := ∀ i, i < n → 32 ≤ (cs i).toInt ∧ (cs i).toInt ≤ 126
theorem here_eq {cs : Nat → Int32} {n a : Nat} {x : Int32} (h0 : ¬ x = 0) (h1 : ¬ x = -1) : hereC cs n a = x ↔ hereM cs n a = x := by
  unfold hereC hereM
  by_cases e : a < n
  · rw [if_pos e, if_pos e]
  · rw [if_neg e, if_neg e]
    exact ⟨fun z => absurd z.symm h0, fun z => absurd z.symm h1⟩
theorem dg_eq {cs : Nat → Int32} {n a : Nat} : (¬ hereC cs n a < 48 ∧ ¬ 57 < hereC cs n a) ↔ okR (hereM cs n a) 48 57 := by
  unfold hereC hereM
  by_cases e : a < n
  · rw [if_pos e, if_pos e]
  · rw [if_neg e, if_neg e]
    exact ⟨fun z => absurd (show (0 : Int32) < 48 by decide) z.1, fun z => absurd (show (-1 : Int32) < 48 by decide) z.1⟩
theorem dig_eq {cs : Nat → Int32} {n : Nat} : ∀ (k a : Nat) (v : Int32), dig cs n k a v = digM cs n k a v
  | 0, _, _ => rfl
  | k + 1, a, v => by
    unfold dig digM
    by_cases e : okR (hereM cs n a) 48 57
    · have ha := hereM_dg e
      have eh : hereC cs n a = hereM cs n a := by unfold hereC hereM; rw [if_pos ha, if_pos ha]
      rw [if_pos e, if_pos (dg_eq.mpr e), eh, Int32.mul_comm v 10]
      exact dig_eq k _ _
    · rw [if_neg e, if_neg (fun z => e (dg_eq.mp z))]
theorem digM_n {cs : Nat → Int32} {n : Nat} : ∀ (k a u : Nat), ∃ u', (digM cs n k a (nI u)).2 = nI u' ∧ u' + 1 ≤ (u + 1) * 10 ^ k
  | 0, a, u => ⟨u, rfl, by rw [Nat.pow_zero, Nat.mul_one]; exact Nat.le_refl _⟩
  | k + 1, a, u => by
    unfold digM
    by_cases e : okR (hereM cs n a) 48 57
    · rw [if_pos e]
      have z := ok_rg e (p := 48) (q := 57) rfl rfl
      obtain ⟨w, hw, ew⟩ := rg_n (x := hereM cs n a) (N := 57) ⟨by omega, by omega⟩ (by decide)
      have w48 : 48 ≤ w := by
        have z1 : 48 ≤ (hereM cs n a).toInt := z.1
        rw [ew, nI_toInt (show w < 2 ^ 31 by omega)] at z1; omega
      have ev : 10 * nI u + hereM cs n a - 48 = nI (10 * u + w - 48) := by
        rw [ew, show (10 : Int32) * nI u = nI (10 * u) from pk_mul 10 u, nI_add]
        exact pk_sub (a := 10 * u + w) (b := 48) (by omega)
      rw [ev]
      obtain ⟨u', h1, h2⟩ := digM_n k (a + 1) (10 * u + w - 48)
      refine ⟨u', h1, Nat.le_trans h2 ?_⟩
      rw [Nat.pow_succ, Nat.mul_comm (10 ^ k) 10, ← Nat.mul_assoc]
      exact Nat.mul_le_mul_right _ (by omega)
    · rw [if_neg e]
      refine ⟨u, rfl, ?_⟩
      have := Nat.one_le_two_pow (n := 0)
      have p : 1 ≤ 10 ^ (k + 1) := Nat.one_le_pow _ _ (by decide)
      exact Nat.le_trans (Nat.le_of_eq (Nat.mul_one _).symm) (Nat.mul_le_mul_left _ p)
/-- both read on -/
def SimT (n : Nat) (P : Pt) (A : Rt) (k : Nat) : Prop := prs P = 0 ∧ pat P = rat A ∧ rat A ≤ n ∧ pm P = k ∧ k ≤ 20 ∧ ∀ i, i < k → (pxs P i = rrd A (3 * i) ∧ pys P i = rrd A (3 * i + 1) ∧ pjn P i = rrd A (3 * i + 2)) ∧ Rg (pxs P i) 0 1000 ∧ Rg (pys P i) 0 1000 ∧ (pjn P i = 0 ∨ pjn P i = 1)
/-- both have found the fault -/
def FltT (P : Pt) (A : Rt) : Prop := prs P = rfr A ∧ ¬ prs P = 0 ∧ pfa P = nI (rat A)
theorem FltT.num {cs : Nat → Int32} {n : Nat} {P : Pt} {A : Rt} (h : FltT P A) : FltT (pNum cs n P).1 A := by
  have f : ∀ (Q : Pt) (p r : Int32), prs Q = prs P → pfa Q = pfa P → FltT (pFail Q p r) A := fun Q p r h1 h2 => by
    unfold pFail
    rw [if_neg (by rw [h1]; exact h.2.1)]
    exact ⟨h1.trans h.1, by rw [h1]; exact h.2.1, h2.trans h.2.2⟩
  unfold pNum
  show FltT (if _ then _ else _) A
  split
  · exact f _ _ _ rfl rfl
  · split
    · exact f _ _ _ rfl rfl
    · exact h
theorem FltT.exp {cs : Nat → Int32} {n : Nat} {P : Pt} {A : Rt} {c : Int32} (h : FltT P A) : pExp cs n P c = P := if_neg h.2.1
theorem FltT.en {P : Pt} {A : Rt} {x y j : Int32} (h : FltT P A) : pEnd P x y j = P := if_neg (fun z => h.2.1 z.1)
theorem FltT.pt {cs : Nat → Int32} {n : Nat} {P : Pt} {A : Rt} {x y j : Int32} (h : FltT (pNum cs n P).1 A) : FltT (pEnd (pNum cs n (pExp cs n (pNum cs n P).1 44)).1 x y j) A := by
  rw [h.exp]
  have z := h.num (cs := cs) (n := n)
  rw [z.en]; exact z
theorem fh_ok {cs : Nat → Int32} {n k : Nat} {P : Pt} {A : Rt} (h : SimT n P A k) : FltT (pFH P n) (rFH A n) := by
  obtain ⟨h1, h2, h3, -⟩ := h
  unfold pFH pFail rFH
  rw [if_pos h1]
  refine ⟨?_, ?_, ?_⟩
  · show (if pat P < n then (1 : Int32) else 2) = (if rat A = n then 2 else 1)
    by_cases e : rat A = n
    · rw [if_pos e, if_neg (by omega)]
    · rw [if_neg e, if_pos (by omega)]
  · show ¬ (if pat P < n then (1 : Int32) else 2) = 0
    split <;> decide
  · show nI (pat P) = nI (rat A)
    rw [h2]
theorem SimT.at_ {n k a : Nat} {P : Pt} {A : Rt} (h : SimT n P A k) (ha : a ≤ n) : SimT n (pAt P a) (rAt A a) k := ⟨h.1, rfl, ha, h.2.2.2.1, h.2.2.2.2.1, h.2.2.2.2.2⟩
theorem SimT.nu {n k : Nat} {P : Pt} {A : Rt} {x : Int32} (h : SimT n P A k) : SimT n P (rNu A x) k := h
theorem num_ok {cs : Nat → Int32} {n k : Nat} {P : Pt} {A : Rt} (h : SimT n P A k) : ((rNum cs n A).2 = true → SimT n (pNum cs n P).1 (rNum cs n A).1 k ∧ (pNum cs n P).2 = rnu (rNum cs n A).1 ∧ Rg (rnu (rNum cs n A).1) 0 1000) ∧ (¬ (rNum cs n A).2 = true → FltT (pNum cs n P).1 (rNum cs n A).1) := by
  obtain ⟨u, eu, hu⟩ := digM_n (cs := cs) (n := n) 4 (rat A) 0
  rw [show nI 0 = (0 : Int32) from rfl] at eu
  have le := digM_le (cs := cs) (zn := n) 4 (rat A) 0 h.2.2.1
  have eD : dig cs n 4 (pat P) 0 = digM cs n 4 (rat A) 0 := by rw [dig_eq, h.2.1]
  have hu2 : u < 10000 := by
    have : (0 + 1) * 10 ^ 4 = 10000 := by decide
    omega
  unfold rNum pNum
  rw [eD]
  generalize digM cs n 4 (rat A) 0 = D at *
  by_cases e1 : D.1 = rat A
  · have e1' : D.1 = pat P := by rw [e1, h.2.1]
    rw [if_pos e1, if_pos e1']
    refine ⟨fun z => absurd (show false = true from z) (by decide), fun _ => ?_⟩
    exact fh_ok (cs := cs) (n := n) (k := k) (P := pAt P D.1) (A := rNu A D.2) ⟨h.1, e1, h.2.2.1, h.2.2.2.1, h.2.2.2.2.1, h.2.2.2.2.2⟩
  · rw [if_neg e1, if_neg (show ¬ D.1 = pat P by rw [h.2.1]; exact e1)]
    by_cases e2 : D.2 ≤ 1000
    · rw [if_neg (show ¬ ¬ D.2 ≤ 1000 from fun z => z e2)]
      try rw [if_neg (show ¬ ¬ D.2 ≤ 1000 from fun z => z e2)]
      refine ⟨fun _ => ⟨(h.nu (x := D.2)).at_ le.2, rfl, ?_⟩, fun z => absurd rfl z⟩
      show Rg D.2 0 1000
      rw [eu] at e2 ⊢
      have z2 : u ≤ 1000 := (nI_leI (a := u) (b := 1000) (by omega) (by decide)).mp e2
      show 0 ≤ (nI u).toInt ∧ (nI u).toInt ≤ 1000
      rw [nI_toInt (by omega)]; omega
    · rw [if_pos e2]
      try rw [if_pos e2]
      refine ⟨fun z => absurd (show false = true from z) (by decide), fun _ => ?_⟩
      show FltT (pFail (pAt P D.1) (nI (pat P)) 3) _
      unfold pFail
      rw [if_pos (show prs (pAt P D.1) = 0 from h.1)]
      exact ⟨rfl, (show ¬ (3 : Int32) = 0 by decide), by show nI (pat P) = nI (rat A); rw [h.2.1]⟩
theorem pt_ok {cs : Nat → Int32} {n k : Nat} {P : Pt} {A : Rt} {q : Int32} (h : SimT n P A k) (hq : q = 0 ∨ q = 1) : ((rPt cs n k q A).2 = true → SimT n (pPoint cs n P q) (rPt cs n k q A).1 (k + 1)) ∧ (¬ (rPt cs n k q A).2 = true → FltT (pPoint cs n P q) (rPt cs n k q A).1) := by
  unfold pPoint pMid
  by_cases e0 : k = 20 ∧ okR (hereM cs n (rat A)) 48 57
  · have eP : pPre cs n P = pFail P (nI (pat P)) 4 := by
      unfold pPre
      rw [if_neg (by have := h.2.2.2.1; omega), if_pos (dg_eq.mpr (by rw [h.2.1]; exact e0.2))]
    have f0 : FltT (pPre cs n P) (rFr A 4) := by
      rw [eP]; unfold pFail; rw [if_pos h.1]
      exact ⟨rfl, (show ¬ (4 : Int32) = 0 by decide), by show nI (pat P) = nI (rat A); rw [h.2.1]⟩
    have eR : rPt cs n k q A = (rFr A 4, false) := if_pos e0
    rw [eR]
    exact ⟨fun z => absurd (show false = true from z) (by decide), fun _ => f0.num.pt⟩
  · have eP : pPre cs n P = P := by
      unfold pPre
      by_cases t : pm P < 20
      · rw [if_pos t]
      · rw [if_neg t, if_neg (fun z => e0 ⟨by have := h.2.2.2.1; have := h.2.2.2.2.1; omega, by rw [← h.2.1]; exact dg_eq.mp z⟩)]
    rw [eP]
    have N := num_ok (cs := cs) h
    by_cases e1 : (rNum cs n A).2 = true
    · obtain ⟨s1, v1, r1⟩ := N.1 e1
      have eR : rPt cs n k q A = rPt2 cs n k q (rnu (rNum cs n A).1) (rNum cs n A).1 := (if_neg e0).trans (if_pos e1)
      rw [eR]
      generalize (rNum cs n A).1 = B at *
      generalize (pNum cs n P).1 = P1 at *
      generalize (pNum cs n P).2 = x1 at *
      unfold rPt2 pExp
      rw [if_pos s1.1]
      by_cases e2 : hereM cs n (rat B) = 44
      · have e2' : hereC cs n (pat P1) = 44 := (here_eq (by decide) (by decide)).mpr (by rw [s1.2.1]; exact e2)
        rw [if_pos e2, if_pos e2']
        have lt := hereM_lt e2 (by decide)
        have s2 : SimT n (pAt P1 (pat P1 + 1)) (rAt B (rat B + 1)) k := by rw [s1.2.1]; exact s1.at_ lt
        have N2 := num_ok (cs := cs) s2
        by_cases e3 : (rNum cs n (rAt B (rat B + 1))).2 = true
        · obtain ⟨s3, v3, r3⟩ := N2.1 e3
          rw [if_pos e3]
          have hk : k < 20 := by
            have z := rNum_dg e1
            rcases Nat.lt_or_ge k 20 with t | t
            · exact t
            · exact absurd ⟨by have := h.2.2.2.2.1; omega, z⟩ e0
          refine ⟨fun _ => ?_, fun z => absurd rfl z⟩
          generalize (rNum cs n (rAt B (rat B + 1))).1 = C at *
          generalize (pNum cs n (pAt P1 (pat P1 + 1))).1 = P2 at *
          generalize (pNum cs n (pAt P1 (pat P1 + 1))).2 = y1 at *
          unfold pEnd
          rw [if_pos ⟨s3.1, by rw [s3.2.2.2.1]; exact hk⟩]
          refine ⟨s3.1, s3.2.1, s3.2.2.1, by show pm P2 + 1 = k + 1; rw [s3.2.2.2.1], hk, fun i hi => ?_⟩
          have e4 : pm P2 = k := s3.2.2.2.1
          show ((va_up (pxs P2) (pm P2) x1 i = va_up (va_up (va_up (rrd C) (3 * k) (rnu B)) (3 * k + 1) (rnu C)) (3 * k + 2) q (3 * i) ∧ va_up (pys P2) (pm P2) y1 i = va_up (va_up (va_up (rrd C) (3 * k) (rnu B)) (3 * k + 1) (rnu C)) (3 * k + 2) q (3 * i + 1) ∧ va_up (pjn P2) (pm P2) q i = va_up (va_up (va_up (rrd C) (3 * k) (rnu B)) (3 * k + 1) (rnu C)) (3 * k + 2) q (3 * i + 2)) ∧ Rg (va_up (pxs P2) (pm P2) x1 i) 0 1000 ∧ Rg (va_up (pys P2) (pm P2) y1 i) 0 1000 ∧ (va_up (pjn P2) (pm P2) q i = 0 ∨ va_up (pjn P2) (pm P2) q i = 1))
          rw [e4]
          by_cases ei : i = k
          · subst ei
            rw [va_up_self, va_up_self, va_up_self, va_up_ne _ _ (show 3 * i ≠ 3 * i + 2 by omega), va_up_ne _ _ (show 3 * i ≠ 3 * i + 1 by omega), va_up_self, va_up_ne _ _ (show 3 * i + 1 ≠ 3 * i + 2 by omega), va_up_self, va_up_self]
            exact ⟨⟨v1, v3, rfl⟩, by rw [v1]; exact r1, by rw [v3]; exact r3, hq⟩
          · have p := s3.2.2.2.2.2 i (by omega)
            rw [va_up_ne _ _ ei, va_up_ne _ _ ei, va_up_ne _ _ ei, va_up_ne _ _ (show 3 * i ≠ 3 * k + 2 by omega), va_up_ne _ _ (show 3 * i ≠ 3 * k + 1 by omega), va_up_ne _ _ (show 3 * i ≠ 3 * k by omega), va_up_ne _ _ (show 3 * i + 1 ≠ 3 * k + 2 by omega), va_up_ne _ _ (show 3 * i + 1 ≠ 3 * k + 1 by omega), va_up_ne _ _ (show 3 * i + 1 ≠ 3 * k by omega), va_up_ne _ _ (show 3 * i + 2 ≠ 3 * k + 2 by omega), va_up_ne _ _ (show 3 * i + 2 ≠ 3 * k + 1 by omega), va_up_ne _ _ (show 3 * i + 2 ≠ 3 * k by omega)]
            exact p
        · rw [if_neg e3]
          refine ⟨fun z => absurd (show false = true from z) (by decide), fun _ => ?_⟩
          have f := N2.2 e3
          rw [f.en]; exact f
      · have e2' : ¬ hereC cs n (pat P1) = 44 := fun z => e2 (by rw [← s1.2.1]; exact (here_eq (by decide) (by decide)).mp z)
        rw [if_neg e2, if_neg e2']
        refine ⟨fun z => absurd (show false = true from z) (by decide), fun _ => ?_⟩
        have f := (fh_ok (cs := cs) s1).num (cs := cs) (n := n)
        rw [f.en]; exact f
    · have eR : rPt cs n k q A = ((rNum cs n A).1, false) := (if_neg e0).trans (if_neg e1)
      rw [eR]
      exact ⟨fun z => absurd (show false = true from z) (by decide), fun _ => (N.2 e1).pt⟩
theorem pLoop_0 {cs : Nat → Int32} {n : Nat} {P : Pt} {j : Int32} : ∀ w, pLoop cs n w P j 0 = P
  | 0 => rfl
  | w + 1 => if_pos rfl
theorem lp_ok {cs : Nat → Int32} {n : Nat} : ∀ (w k : Nat) (q : Int32) (P : Pt) (A : Rt), k + w = 21 → SimT n P A k → (q = 0 ∨ q = 1) → (∀ z, (rLp cs n w k q A).2 = some z → SimT n (pLoop cs n w P q 1) (rLp cs n w k q A).1 z) ∧ ((rLp cs n w k q A).2 = none → FltT (pLoop cs n w P q 1) (rLp cs n w k q A).1)
  | 0, k, q, P, A, hk, h, _ => by have := h.2.2.2.2.1; omega
  | w + 1, k, q, P, A, hk, h, hq => by
    have N := pt_ok (cs := cs) h hq
    unfold pLoop
    rw [if_neg (show ¬ (1 : Int32) = 0 by decide)]
    by_cases e : (rPt cs n k q A).2 = true
    · have s := N.1 e
      rw [rLp_t e]
      generalize (rPt cs n k q A).1 = B at *
      generalize pPoint cs n P q = P1 at *
      unfold rCt pStep
      have h45 : hereC cs n (pat P1) = 45 ↔ hereM cs n (rat B) = 45 := by rw [s.2.1]; exact here_eq (by decide) (by decide)
      have h32 : hereC cs n (pat P1) = 32 ↔ hereM cs n (rat B) = 32 := by rw [s.2.1]; exact here_eq (by decide) (by decide)
      by_cases e2 : hereM cs n (rat B) = 45 ∨ hereM cs n (rat B) = 32
      · have e2' : prs P1 = 0 ∧ (hereC cs n (pat P1) = 45 ∨ hereC cs n (pat P1) = 32) := ⟨s.1, by rcases e2 with z | z; exact Or.inl (h45.mpr z); exact Or.inr (h32.mpr z)⟩
        rw [if_pos e2, if_pos e2']
        have lt : rat B < n := by
          rcases e2 with z | z
          · exact hereM_lt z (by decide)
          · exact hereM_lt z (by decide)
        have s2 : SimT n (pAt P1 (pat P1 + 1)) (rAt B (rat B + 1)) (k + 1) := by rw [s.2.1]; exact s.at_ lt
        have eb : bi (hereC cs n (pat P1) = 45) = (if hereM cs n (rat B) = 45 then 1 else 0) := by
          unfold bi
          by_cases z : hereM cs n (rat B) = 45
          · rw [if_pos z, if_pos (h45.mpr z)]
          · rw [if_neg z, if_neg (fun t => z (h45.mp t))]
        show (∀ z, _ → SimT n (pLoop cs n w (pAt P1 (pat P1 + 1)) (bi (hereC cs n (pat P1) = 45)) 1) _ z) ∧ _
        rw [eb]
        exact lp_ok w (k + 1) _ _ _ (by omega) s2 (by split; exact Or.inr rfl; exact Or.inl rfl)
      · have e2' : ¬ (prs P1 = 0 ∧ (hereC cs n (pat P1) = 45 ∨ hereC cs n (pat P1) = 32)) := fun z => e2 (by rcases z.2 with t | t; exact Or.inl (h45.mp t); exact Or.inr (h32.mp t))
        rw [if_neg e2, if_neg e2']
        show (∀ z, some (k + 1) = some z → SimT n (pLoop cs n w P1 _ 0) B z) ∧ (some (k + 1) = none → FltT (pLoop cs n w P1 _ 0) B)
        rw [pLoop_0]
        refine ⟨fun z hz => ?_, fun z => (by cases z)⟩
        injection hz with hz
        subst hz; exact s
    · have f := N.2 e
      rw [rLp_f e]
      generalize (rPt cs n k q A).1 = B at *
      generalize pPoint cs n P q = P1 at *
      unfold pStep
      rw [if_neg (fun z => f.2.1 z.1)]
      show (∀ z, none = some z → SimT n (pLoop cs n w P1 _ 0) B z) ∧ (none = none → FltT (pLoop cs n w P1 _ 0) B)
      rw [pLoop_0]
      exact ⟨fun z hz => (by cases hz), fun _ => f⟩
theorem txt_ok {cs : Nat → Int32} {n : Nat} {fa : Int32} {xs ys js : Nat → Int32} {A : Rt} : (∀ z, (rTxt cs n A).2 = some z → SimT n (pParse cs n fa xs ys js) (rTxt cs n A).1 z) ∧ ((rTxt cs n A).2 = none → FltT (pParse cs n fa xs ys js) (rTxt cs n A).1) := by
  have L := lp_ok (cs := cs) (n := n) 21 0 0 (0, fa, 0, 0, xs, ys, js) (rFr (rAt A 0) 0) rfl ⟨rfl, rfl, Nat.zero_le _, rfl, by decide, fun i hi => absurd hi (Nat.not_lt_zero i)⟩ (Or.inl rfl)
  unfold rTxt pParse
  generalize rLp cs n 21 0 0 (rFr (rAt A 0) 0) = R at *
  generalize pLoop cs n 21 (0, fa, 0, 0, xs, ys, js) 0 1 = P at *
  obtain ⟨B, w⟩ := R
  unfold rFin pFin
  cases w with
  | none =>
    have f : FltT P B := L.2 rfl
    show (∀ z, none = some z → _) ∧ (none = none → _)
    rw [f.exp, if_neg (fun z => f.2.1 z.1)]
    exact ⟨fun z hz => (by cases hz), fun _ => f⟩
  | some k =>
    have s : SimT n P B k := L.1 k rfl
    show (∀ z, (if hereM cs n (rat B) = 46 then (if rat B + 1 = n then (rAt B (rat B + 1), some k) else (rFH (rAt B (rat B + 1)) n, none)) else (rFH B n, none) : Rt × Option Nat).2 = some z → SimT n _ (if hereM cs n (rat B) = 46 then (if rat B + 1 = n then (rAt B (rat B + 1), some k) else (rFH (rAt B (rat B + 1)) n, none)) else (rFH B n, none) : Rt × Option Nat).1 z) ∧ ((if hereM cs n (rat B) = 46 then (if rat B + 1 = n then (rAt B (rat B + 1), some k) else (rFH (rAt B (rat B + 1)) n, none)) else (rFH B n, none) : Rt × Option Nat).2 = none → FltT _ (if hereM cs n (rat B) = 46 then (if rat B + 1 = n then (rAt B (rat B + 1), some k) else (rFH (rAt B (rat B + 1)) n, none)) else (rFH B n, none) : Rt × Option Nat).1)
    by_cases e : hereM cs n (rat B) = 46
    · have lt := hereM_lt e (by decide)
      have ex : pExp cs n P 46 = pAt P (pat P + 1) := by
        unfold pExp
        rw [if_pos s.1, if_pos ((here_eq (by decide) (by decide)).mpr (by rw [s.2.1]; exact e))]
      have s2 : SimT n (pAt P (pat P + 1)) (rAt B (rat B + 1)) k := by rw [s.2.1]; exact s.at_ lt
      rw [if_pos e, ex]
      by_cases e2 : rat B + 1 = n
      · rw [if_pos e2, if_neg (fun z => by have z2 : pat P + 1 < n := z.2; rw [s.2.1] at z2; omega)]
        refine ⟨fun z hz => ?_, fun z => (by cases z)⟩
        injection hz with hz
        subst hz; exact s2
      · rw [if_neg e2, if_pos ⟨s.1, by show pat P + 1 < n; rw [s.2.1]; omega⟩]
        exact ⟨fun z hz => (by cases hz), fun _ => fh_ok (cs := cs) s2⟩
    · have ex : pExp cs n P 46 = pFH P n := by
        unfold pExp
        rw [if_pos s.1, if_neg (fun z => e (by rw [← s.2.1]; exact (here_eq (by decide) (by decide)).mp z))]
      have f := fh_ok (cs := cs) s
      rw [if_neg e, ex, if_neg (fun z => f.2.1 z.1)]
      exact ⟨fun z hz => (by cases hz), fun _ => f⟩
theorem rel_fault {cs : Nat → Int32} {n : Nat} {fa w : Int32} {xs ys js : Nat → Int32} {A : Rt} : (mFau cs n A w).1 = cFlt (pParse cs n fa xs ys js) w := by
  have T := txt_ok (cs := cs) (n := n) (fa := fa) (xs := xs) (ys := ys) (js := js) (A := A)
  unfold mFau cFlt
  by_cases e : okR w 0 1
  · rw [if_pos e, if_neg (show ¬ ¬ okR w 0 1 from fun z => z e)]
    show (if (rTxt cs n A).2 = none then _ else _) = _
    cases h : (rTxt cs n A).2 with
    | none =>
      have f := T.2 h
      rw [if_pos rfl, if_neg f.2.1]
      by_cases e2 : w = 0
      · rw [if_pos e2, if_pos e2]; exact f.2.2.symm
      · rw [if_neg e2, if_neg e2]; exact f.1.symm
    | some z =>
      have s := T.1 z h
      rw [if_neg (by intro t; cases t), if_pos s.1]
  · rw [if_neg e]
    try rw [if_pos (show ¬ okR w 0 1 from e)]
/-! read -/
theorem adL_lo {f : Nat → Int64} {n c : Nat} {rd : Nat → Int32} (hc : c < 15 + 150 * n) (h14 : c ≠ 14) : ∀ k, adL (bgF f n) n rd k c = f c
  | 0 => bgF_lo hc h14
  | k + 1 => (adF_o (by unfold ceC; omega) (by unfold hdC; omega)).trans (adL_lo hc h14 k)
theorem adL_14 {f : Nat → Int64} {n : Nat} {rd : Nat → Int32} : ∀ k, adL (bgF f n) n rd k 14 = f 14 + 1
  | 0 => bgF_14
  | k + 1 => (adF_o (by unfold ceC; omega) (by unfold hdC; omega)).trans (adL_14 k)
theorem rd_all {f : Nat → Int64} {n N z : Nat} {P : Pt} {A : Rt} (hn : n ≤ 5) (s : SimT N P A z) : ∀ k, k ≤ z → PD (adL (bgF f n) n (rrd A) k) n (apD P (dBegin (-1) 1 1) k) ∧ CIv (apD P (dBegin (-1) 1 1) k) 0 ∧ LIv (apD P (dBegin (-1) 1 1) k) ∧ rpa (apD P (dBegin (-1) 1 1) k) = -1
  | 0, _ => ⟨⟨PE_bg, fun i hi => absurd hi (Nat.not_lt_zero i)⟩, CI_bg, ⟨fun i hi => absurd hi (Nat.not_lt_zero i), fun z => absurd z (Nat.lt_irrefl 0)⟩, rfl⟩
  | k + 1, hk => by
    obtain ⟨a, b, c, d⟩ := rd_all (f := f) hn s k (by omega)
    have z20 := s.2.2.2.2.1
    obtain ⟨⟨p1, p2, p3⟩, r1, r2, r3⟩ := s.2.2.2.2.2 k (by omega)
    have en : rn (apD P (dBegin (-1) 1 1) k) = k := (apD_n _ _ k).trans (Nat.zero_add k)
    obtain ⟨-, b1, b2, b3⟩ := add_ok (x := pxs P k) (y := pys P k) (q := pjn P k) a b c (by omega) r1 r2 hn
    rw [en] at b1
    have el : (if pjn P k = 0 then (-1 : Int32) else 1) = lnV (pjn P k) := by
      unfold lnV
      rcases r3 with t | t <;> rw [t] <;> decide
    show PD (adF (adL (bgF f n) n (rrd A) k) n k (rrd A (3 * k)) (rrd A (3 * k + 1)) (decide (rrd A (3 * k + 2) = 1 ∧ 0 < k))) n (dAdd (apD P (dBegin (-1) 1 1) k) (pxs P k).toInt64 (pys P k).toInt64 (if pjn P k = 0 then -1 else 1)) ∧ CIv (dAdd (apD P (dBegin (-1) 1 1) k) (pxs P k).toInt64 (pys P k).toInt64 (if pjn P k = 0 then -1 else 1)) 0 ∧ LIv (dAdd (apD P (dBegin (-1) 1 1) k) (pxs P k).toInt64 (pys P k).toInt64 (if pjn P k = 0 then -1 else 1)) ∧ _
    rw [el, ← p1, ← p2, ← p3]
    exact ⟨b1, b3, b2, d⟩
theorem rel_RdOK {f : Nat → Int64} {S : Dk} {cs : Nat → Int32} {n : Nat} {A : Rt} : ∀ z, (rTxt cs n A).2 = some z → kn S ≤ 5 → RdOK f (kn S) (rrd (rTxt cs n A).1) z := fun z hz hn k hk h1 => by
  have s := (txt_ok (cs := cs) (n := n) (fa := 0) (xs := fun _ => 0) (ys := fun _ => 0) (js := fun _ => 0) (A := A)).1 z hz
  obtain ⟨a, b, c, -⟩ := rd_all (f := f) hn s k (by omega)
  have z20 := s.2.2.2.2.1
  obtain ⟨⟨p1, p2, p3⟩, r1, r2, r3⟩ := s.2.2.2.2.2 k hk
  have en : rn (apD (pParse cs n 0 (fun _ => 0) (fun _ => 0) (fun _ => 0)) (dBegin (-1) 1 1) k) = k := (apD_n _ _ k).trans (Nat.zero_add k)
  obtain ⟨b1, -⟩ := add_ok (q := 0) a b c (by omega) r1 r2 hn
  rw [en, p1, p2] at b1
  exact b1 h1
theorem rel_read {f : Nat → Int64} {S : Dk} {cs : Nat → Int32} {n : Nat} {fa : Int32} {xs ys js : Nat → Int32} {A : Rt} (g : Rel f S) : (mRd f (kn S) cs n A).1 = (cRed S (pParse cs n fa xs ys js)).1 ∧ RelA (cRed S (pParse cs n fa xs ys js)).2 (mRd f (kn S) cs n A).2 := by
  have T := txt_ok (cs := cs) (n := n) (fa := fa) (xs := xs) (ys := ys) (js := js) (A := A)
  have n6 := g.n6
  unfold mRd cRed
  cases h : (rTxt cs n A).2 with
  | none =>
    have f := T.2 h
    rw [if_pos f.2.1]
    exact ⟨rfl, trivial⟩
  | some z =>
    have s := T.1 z h
    rw [if_neg (show ¬ ¬ prs (pParse cs n fa xs ys js) = 0 from fun t => t s.1)]
    show (if kn S = 6 then _ else _ : Int32 × Option (Nat → Int64)).1 = _ ∧ RelA _ (if kn S = 6 then _ else _ : Int32 × Option (Nat → Int64)).2
    by_cases e : kn S = 6
    · rw [if_pos e, if_pos (show ¬ kn S < 6 by omega)]; exact ⟨rfl, trivial⟩
    · rw [if_neg e, if_neg (show ¬ ¬ kn S < 6 by omega)]
      refine ⟨rfl, ?_⟩
      have em : pm (pParse cs n fa xs ys js) = z := s.2.2.2.1
      obtain ⟨a, b, c, d⟩ := rd_all (f := f) (n := kn S) (by omega) s z (Nat.le_refl z)
      show Rel (adL (bgF f (kn S)) (kn S) (rrd (rTxt cs n A).1) z) (kf S, ks S, kn S + 1, va_up (kdr S) (kn S) (apD (pParse cs n fa xs ys js) (dBegin (-1) 1 1) (pm (pParse cs n fa xs ys js))))
      rw [em]
      exact g.add (by omega) (fun q h1 h2 => adL_lo h2 (by omega) z) (PH_bg g.h (fun q hq => adL_lo (by omega) (by omega) z) (by rw [adL_14, g.h.2.2.2.2.2, lN_1])) g.r a c b (fun K _ cc => ⟨0, cc, Or.inl ⟨d, rfl⟩⟩)
