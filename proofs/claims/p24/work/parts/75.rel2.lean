/-! the relation is kept -/
theorem PP.congr {f f' : Nat → Int64} {c : Nat} {d : Dr} {i : Nat} (h : PP f c d i) (hc : ∀ j, j ≤ 6 → f' (c + j) = f (c + j)) : PP f' c d i := by
  unfold PP at h ⊢
  rw [hc 0 (by decide), hc 1 (by decide), hc 2 (by decide), hc 3 (by decide), hc 4 (by decide), hc 5 (by decide), hc 6 (by decide)]
  exact h
theorem PE.congr {f f' : Nat → Int64} {j : Nat} {d : Dr} (h : PE f j d) (hc : ∀ k, k ≤ 9 → f' (hdC j k) = f (hdC j k)) : PE f' j d := by
  unfold PE at h ⊢
  rw [hc 0 (by decide), hc 1 (by decide), hc 2 (by decide), hc 3 (by decide), hc 4 (by decide), hc 5 (by decide), hc 6 (by decide), hc 7 (by decide), hc 8 (by decide), hc 9 (by decide)]
  exact h
theorem PD.congr {f f' : Nat → Int64} {j : Nat} {d : Dr} (h : PD f j d) (h20 : rn d ≤ 20) (hc : ∀ c, 15 + 150 * j ≤ c → c < 165 + 150 * j → f' c = f c) : PD f' j d :=
  ⟨h.1.congr (fun k hk => hc _ (by unfold hdC; omega) (by unfold hdC; omega)), fun i hi => (h.2 i hi).congr (fun k hk => hc _ (by unfold ceC; omega) (by unfold ceC; omega))⟩
theorem Rel.n20 {f : Nat → Int64} {S : Dk} (g : Rel f S) (j : Nat) (hj : j < kn S) : rn (kdr S j) ≤ 20 := by
  obtain ⟨k, -, c⟩ := g.c j hj
  exact c.2.2.2.2.1
/-- the desk alone changed -/
theorem Rel.desk {f f' : Nat → Int64} {S : Dk} {a b : Nat → Int32} (g : Rel f S) (hc : ∀ c, 15 ≤ c → f' c = f c) (h : PH f' (a, b, kn S, kdr S)) (r : RH (a, b, kn S, kdr S)) : Rel f' (a, b, kn S, kdr S) :=
  ⟨h, r, g.n6, fun j hj => ⟨(g.d j hj).congr (g.n20 j hj) (fun c h1 _ => hc c (by omega)), g.l j hj⟩, g.2.2.2.2⟩
/-- a drawing behind the last -/
theorem Rel.add {f f' : Nat → Int64} {S : Dk} {a b : Nat → Int32} {d : Dr} {k : Nat} (g : Rel f S) (hn : kn S < 6) (hc : ∀ c, 15 ≤ c → c < 15 + 150 * kn S → f' c = f c) (h : PH f' (a, b, kn S + 1, va_up (kdr S) (kn S) d)) (r : RH (a, b, kn S + 1, va_up (kdr S) (kn S) d)) (hd : PD f' (kn S) d) (hl : LIv d) (hk : CIv d k)
    (hp : ∀ K : Nat → Nat, (∀ j, j < kn S → CIv (kdr S j) (K j) ∧ Par S K j) → CIv d k → ∃ k2, CIv d k2 ∧ ((rpa d = -1 ∧ k2 = 0) ∨ ∃ q, q < kn S ∧ rpa d = nI q ∧ k2 = K q + 1 ∧ rn d = rn (kdr S q))) : Rel f' (a, b, kn S + 1, va_up (kdr S) (kn S) d) := by
  refine ⟨h, r, hn, fun j hj => ?_, ?_⟩
  · by_cases ej : j = kn S
    · subst ej
      show PD f' _ (va_up (kdr S) (kn S) d (kn S)) ∧ LIv (va_up (kdr S) (kn S) d (kn S))
      rw [va_up_self]; exact ⟨hd, hl⟩
    · have hj2 : j < kn S := by
        have z : j < kn S + 1 := hj
        omega
      show PD f' j (va_up (kdr S) (kn S) d j) ∧ LIv (va_up (kdr S) (kn S) d j)
      rw [va_up_ne _ _ ej]
      exact ⟨(g.d j hj2).congr (g.n20 j hj2) (fun c h1 h2 => hc c (by omega) (by omega)), g.l j hj2⟩
  · obtain ⟨K, hK⟩ := g.2.2.2.2
    obtain ⟨k2, c2, p2⟩ := hp K hK hk
    refine ⟨va_up K (kn S) k2, fun j hj => ?_⟩
    by_cases ej : j = kn S
    · subst ej
      show CIv (va_up (kdr S) (kn S) d (kn S)) _ ∧ _
      unfold Par
      show CIv (va_up (kdr S) (kn S) d (kn S)) _ ∧ ((rpa (va_up (kdr S) (kn S) d (kn S)) = -1 ∧ _) ∨ ∃ q, _ ∧ rpa (va_up (kdr S) (kn S) d (kn S)) = nI q ∧ _ ∧ rn (va_up (kdr S) (kn S) d (kn S)) = rn (va_up (kdr S) (kn S) d q))
      rw [va_up_self, va_up_self]
      refine ⟨c2, ?_⟩
      rcases p2 with z | ⟨q, hq, z1, z2, z3⟩
      · exact Or.inl z
      · exact Or.inr ⟨q, hq, z1, by rw [va_up_ne _ _ (by omega)]; exact z2, by rw [va_up_ne _ _ (by omega)]; exact z3⟩
    · have hj2 : j < kn S := by
        have z : j < kn S + 1 := hj
        omega
      show CIv (va_up (kdr S) (kn S) d j) _ ∧ _
      unfold Par
      show CIv (va_up (kdr S) (kn S) d j) _ ∧ ((rpa (va_up (kdr S) (kn S) d j) = -1 ∧ _) ∨ ∃ q, _ ∧ rpa (va_up (kdr S) (kn S) d j) = nI q ∧ _ ∧ rn (va_up (kdr S) (kn S) d j) = rn (va_up (kdr S) (kn S) d q))
      rw [va_up_ne _ _ ej, va_up_ne _ _ ej]
      refine ⟨(hK j hj2).1, ?_⟩
      rcases (hK j hj2).2 with z | ⟨q, hq, z1, z2, z3⟩
      · exact Or.inl z
      · exact Or.inr ⟨q, hq, z1, by rw [va_up_ne _ _ (by omega)]; exact z2, by rw [va_up_ne _ _ (by omega)]; exact z3⟩
/-- one drawing changed, but not its number of steps -/
theorem Rel.upd {f f' : Nat → Int64} {S : Dk} {d : Dr} {i : Nat} (g : Rel f S) (hi : i < kn S) (hc : ∀ c, (c < 15 + 150 * i ∨ 165 + 150 * i ≤ c) → f' c = f c) (hd : PD f' i d) (hl : LIv d) (hp : rpa d = -1) (hp2 : rpa (kdr S i) = -1) (hno : ∀ j, j < kn S → ¬ rpa (kdr S j) = nI i) (hk : ∀ k, k ≤ 5 → CIv (kdr S i) k → CIv d k) : Rel f' (kf S, ks S, kn S, va_up (kdr S) i d) := by
  have n6 := g.n6
  refine ⟨?_, g.r, g.n6, fun j hj => ?_, ?_⟩
  · have h := g.h
    unfold PH at h ⊢
    rw [hc 0 (by omega), hc 1 (by omega), hc 2 (by omega), hc 3 (by omega), hc 4 (by omega), hc 5 (by omega), hc 6 (by omega), hc 7 (by omega), hc 8 (by omega), hc 9 (by omega), hc 10 (by omega), hc 11 (by omega), hc 12 (by omega), hc 13 (by omega), hc 14 (by omega)]
    exact h
  · by_cases ej : j = i
    · subst ej
      show PD f' j (va_up (kdr S) j d j) ∧ LIv (va_up (kdr S) j d j)
      rw [va_up_self]; exact ⟨hd, hl⟩
    · have hj2 : j < kn S := hj
      show PD f' j (va_up (kdr S) i d j) ∧ LIv (va_up (kdr S) i d j)
      rw [va_up_ne _ _ ej]
      exact ⟨(g.d j hj2).congr (g.n20 j hj2) (fun c h1 h2 => hc c (by omega)), g.l j hj2⟩
  · obtain ⟨K, hK⟩ := g.K
    refine ⟨K, fun j hj => ?_⟩
    have hj2 : j < kn S := hj
    unfold Par
    show CIv (va_up (kdr S) i d j) _ ∧ ((rpa (va_up (kdr S) i d j) = -1 ∧ _) ∨ ∃ q, _ ∧ rpa (va_up (kdr S) i d j) = nI q ∧ _ ∧ rn (va_up (kdr S) i d j) = rn (va_up (kdr S) i d q))
    by_cases ej : j = i
    · subst ej
      rw [va_up_self, hp]
      refine ⟨hk _ (by have := (hK j hi).2.2; omega) (hK j hi).1, Or.inl ⟨rfl, ?_⟩⟩
      rcases (hK j hi).2.1 with z | ⟨q, hq, z, -⟩
      · exact z.2
      · exfalso
        rw [hp2] at z
        have z2 := congrArg Int32.toInt z
        rw [nI_toInt (by omega)] at z2
        have z3 : (-1 : Int32).toInt = -1 := by decide
        omega
    · rw [va_up_ne _ _ ej]
      refine ⟨(hK j hj2).1, ?_⟩
      rcases (hK j hj2).2.1 with z | ⟨q, hq, z1, z2, z3⟩
      · exact Or.inl z
      · refine Or.inr ⟨q, hq, z1, z2, ?_⟩
        rw [va_up_ne _ _ (fun zz => hno j hj2 (by rw [z1, zz]))]
        exact z3
def RelA (x : Option Dk) (y : Option (Nat → Int64)) : Prop := match x, y with
  | none, none => True
  | some S, some f => Rel f S
  | _, _ => False
theorem ok_rg {x a b : Int32} {p q : Int} (h : okR x a b) (ha : a.toInt = p) (hb : b.toInt = q) : Rg x p q := by
  have h1 := Int32.le_iff_toInt_le.mp (i32_not_lt.mp h.1)
  have h2 := Int32.le_iff_toInt_le.mp (i32_not_lt.mp h.2)
  omega
theorem rg_n {x : Int32} {N : Nat} (h : Rg x 0 N) (hN : N < 2147483648) : ∃ n, n ≤ N ∧ x = nI n := by
  refine ⟨x.toInt.toNat, by omega, Int32.toInt_inj.mp ?_⟩
  rw [nI_toInt (by omega)]; omega
theorem rel_arm {f : Nat → Int64} {S : Dk} {x y : Int32} (g : Rel f S) : (mArm f x y).1 = (cArm S x y).1 ∧ RelA (cArm S x y).2 (mArm f x y).2 := by
  have h := g.h
  unfold mArm cArm
  by_cases e : okR x 1 20 ∧ okR y 1 20
  · rw [if_pos e, if_pos e]
    refine ⟨?_, g.desk (fun c hc => ?_) ⟨⟨rfl, rfl, h.1.2.2.1, h.1.2.2.2⟩, h.2.1, h.2.2.1, h.2.2.2.1, h.2.2.2.2.1, h.2.2.2.2.2⟩ ⟨⟨ok_rg e.1 rfl rfl, ok_rg e.2 rfl rfl, g.r.1.2.2⟩, g.r.2⟩⟩
    · show 100 * (f 0).toInt32 + (f 1).toInt32 = 100 * kf S 0 + kf S 1
      rw [h.1.1, h.1.2.1, i64_32, i64_32]
    · rw [va_up_ne _ _ (by omega), va_up_ne _ _ (by omega)]
  · rw [if_neg e, if_neg e]; exact ⟨rfl, trivial⟩
theorem rel_pivot {f : Nat → Int64} {S : Dk} {x y : Int32} (g : Rel f S) : (mPiv f x y).1 = (cPiv S x y).1 ∧ RelA (cPiv S x y).2 (mPiv f x y).2 := by
  have h := g.h
  unfold mPiv cPiv
  by_cases e : okR x 0 1000 ∧ okR y 0 1000
  · rw [if_pos e, if_pos e]
    refine ⟨?_, g.desk (fun c hc => ?_) ⟨⟨h.1.1, h.1.2.1, rfl, rfl⟩, h.2.1, h.2.2.1, h.2.2.2.1, h.2.2.2.2.1, h.2.2.2.2.2⟩ ⟨⟨g.r.1.1, g.r.1.2.1, ok_rg e.1 rfl rfl, ok_rg e.2 rfl rfl⟩, g.r.2⟩⟩
    · show 10000 * (f 2).toInt32 + (f 3).toInt32 = 10000 * kf S 2 + kf S 3
      rw [h.1.2.2.1, h.1.2.2.2, i64_32, i64_32]
    · rw [va_up_ne _ _ (by omega), va_up_ne _ _ (by omega)]
  · rw [if_neg e, if_neg e]; exact ⟨rfl, trivial⟩
theorem rel_set {f : Nat → Int64} {S : Dk} {w v : Int32} (g : Rel f S) : (mSet f w v).1 = (cSet S w v).1 ∧ RelA (cSet S w v).2 (mSet f w v).2 := by
  have h := g.h
  have r := g.r
  have key : ((¬ w < 0 ∧ ¬ 5 ≤ w) ∧ okR v (leastv w.toNatClampNeg) (mostv w.toNatClampNeg)) ↔ stOK w v := by
    constructor
    · intro z
      obtain ⟨k, hk, rfl⟩ := nI_of z.1.1
      have z5 : ¬ nI 5 ≤ nI k := z.1.2
      rw [nI_leI (by decide) hk] at z5
      have z2 := z.2
      rw [nI_clamp hk] at z2
      have q : k = 0 ∨ k = 1 ∨ k = 2 ∨ k = 3 ∨ k = 4 := by omega
      rcases q with rfl | rfl | rfl | rfl | rfl
      · exact st_0.mp z2
      · exact st_1.mp z2
      · exact st_2.mp z2
      · exact st_3.mp z2
      · exact st_4.mp z2
    · intro z
      rcases z with ⟨rfl, q⟩ | ⟨rfl, q⟩ | ⟨rfl | rfl, q⟩ | ⟨rfl, q⟩
      · exact ⟨by decide, q⟩
      · exact ⟨by decide, q⟩
      · exact ⟨by decide, q⟩
      · exact ⟨by decide, q⟩
      · exact ⟨by decide, q⟩
  unfold mSet cSet
  by_cases e : stOK w v
  · rw [if_pos e, if_pos (key.mpr e)]
    rcases e with ⟨rfl, q⟩ | ⟨rfl, q⟩ | ⟨rfl | rfl, q⟩ | ⟨rfl, q⟩
    · refine ⟨?_, g.desk (fun c hc => va_up_ne _ _ (show c ≠ 4 by omega)) ⟨h.1, ⟨rfl, h.2.1.2⟩, h.2.2⟩ ⟨r.1, ⟨ok_rg q rfl rfl, r.2.1.2⟩, r.2.2⟩⟩
      show (f 4).toInt32 = ks S 0
      rw [h.2.1.1, i64_32]
    · refine ⟨?_, g.desk (fun c hc => va_up_ne _ _ (show c ≠ 5 by omega)) ⟨h.1, ⟨h.2.1.1, rfl, h.2.1.2.2⟩, h.2.2⟩ ⟨r.1, ⟨r.2.1.1, ok_rg q rfl rfl, r.2.1.2.2⟩, r.2.2⟩⟩
      show (f 5).toInt32 = ks S 1
      rw [h.2.1.2.1, i64_32]
    · refine ⟨?_, g.desk (fun c hc => va_up_ne _ _ (show c ≠ 6 by omega)) ⟨h.1, ⟨h.2.1.1, h.2.1.2.1, rfl, h.2.1.2.2.2⟩, h.2.2⟩ ⟨r.1, ⟨r.2.1.1, r.2.1.2.1, ok_rg q rfl rfl, r.2.1.2.2.2⟩, r.2.2⟩⟩
      show (f 6).toInt32 = ks S 2
      rw [h.2.1.2.2.1, i64_32]
    · refine ⟨?_, g.desk (fun c hc => va_up_ne _ _ (show c ≠ 7 by omega)) ⟨h.1, ⟨h.2.1.1, h.2.1.2.1, h.2.1.2.2.1, rfl, h.2.1.2.2.2.2⟩, h.2.2⟩ ⟨r.1, ⟨r.2.1.1, r.2.1.2.1, r.2.1.2.2.1, ok_rg q rfl rfl, r.2.1.2.2.2.2⟩, r.2.2⟩⟩
      show (f 7).toInt32 = ks S 3
      rw [h.2.1.2.2.2.1, i64_32]
    · refine ⟨?_, g.desk (fun c hc => va_up_ne _ _ (show c ≠ 8 by omega)) ⟨h.1, ⟨h.2.1.1, h.2.1.2.1, h.2.1.2.2.1, h.2.1.2.2.2.1, rfl⟩, h.2.2⟩ ⟨r.1, ⟨r.2.1.1, r.2.1.2.1, r.2.1.2.2.1, r.2.1.2.2.2.1, ok_rg q rfl rfl⟩, r.2.2⟩⟩
      show (f 8).toInt32 = ks S 4
      rw [h.2.1.2.2.2.2, i64_32]
  · rw [if_neg e, if_neg (fun z => e (key.mp z))]; exact ⟨rfl, trivial⟩
theorem rel_sharpen {f : Nat → Int64} {S : Dk} (g : Rel f S) : (mShp f).1 = (cShp S).1 ∧ RelA (cShp S).2 (mShp f).2 := by
  have h := g.h
  have r := g.r
  obtain ⟨n, hn, en⟩ := rg_n (N := 10) r.2.2.2 (by decide)
  have e10 : f 10 = J (10 - (n : Int)) := by rw [h.2.2.2.1, en, nI_toInt (by omega)]
  have hq : f 10 = 10 ↔ n = 0 := by
    rw [e10]
    refine (J_eq (b := 10) ⟨by omega, by omega⟩ (by decide)).trans ?_
    omega
  have hc : 1 ≤ kf S 6 ↔ 1 ≤ n := by
    rw [en]; exact nI_leI (a := 1) (by decide) (by omega)
  unfold mShp cShp
  by_cases e : n = 0
  · rw [if_pos (hq.mpr e), if_neg (fun z => by have := hc.mp z; omega)]; exact ⟨rfl, trivial⟩
  · rw [if_neg (fun z => e (hq.mp z)), if_pos (hc.mpr (by omega))]
    have es : kf S 6 - 1 = nI (n - 1) := by rw [en]; exact pk_sub (a := n) (b := 1) (by omega)
    refine ⟨?_, g.desk (fun c hc => ?_) ⟨h.1, h.2.1, rfl, ?_, h.2.2.2.2.1, h.2.2.2.2.2⟩ ⟨r.1, r.2.1, (show Rg (0 : Int32) 0 100000 from ⟨by decide, by decide⟩), ?_⟩⟩
    · show (f 9).toInt32 = kf S 5
      rw [h.2.2.1, i64_32]
    · rw [va_up_ne _ _ (by omega), va_up_ne _ _ (by omega)]
    · show f 10 + 1 = J (10 - (kf S 6 - 1).toInt)
      rw [es, nI_toInt (by omega), e10, show (1 : Int64) = J 1 by decide, J_add]
      congr 1; omega
    · show Rg (kf S 6 - 1) 0 10
      rw [es]
      show 0 ≤ (nI (n - 1)).toInt ∧ (nI (n - 1)).toInt ≤ 10
      rw [nI_toInt (by omega)]; omega
/-- how blunt the point is -/
theorem rel_worn {f : Nat → Int64} {S : Dk} (g : Rel f S) : ∃ q : Nat, q ≤ 100000 ∧ 1 + f 9 / f 8 = lN (1 + q) ∧ sWorn S = nI (1 + q) := by
  have h := g.h
  obtain ⟨n, hn, en⟩ := rg_n (N := 100000) g.r.2.2.1 (by decide)
  have r8 := g.r.2.1.2.2.2.2
  obtain ⟨k, hk, ek⟩ := rg_n (x := ks S 4) (N := 1000) ⟨by omega, by omega⟩ (by decide)
  have hk1 : 1 ≤ k := by have := r8.1; rw [ek, nI_toInt (by omega)] at this; omega
  have d1 : n / k ≤ n := Nat.div_le_self _ _
  refine ⟨n / k, by omega, ?_, ?_⟩
  · rw [h.2.2.1, h.2.1.2.2.2.2, en, ek, nI_l (by omega), nI_l (by omega), pk_lDiv (by omega) hk1 (by omega), Nat.add_comm, ← lN_1]
    exact Int64.add_comm _ _
  · unfold sWorn quo
    rw [en, ek, nI_l (by omega), nI_l (by omega), if_neg (fun z => by have := (pk_lLE (a := k) (b := 0) (by omega) (by decide)).mp z; omega), pk_lDiv (by omega) hk1 (by omega), lN_i, Nat.add_comm, ← nI_1]
    exact Int32.add_comm _ _
theorem rel_blunt {f : Nat → Int64} {S : Dk} (g : Rel f S) : 1 + f 9 / f 8 ≤ 9 ↔ sWorn S ≤ 9 := by
  obtain ⟨q, hq, e1, e2⟩ := rel_worn g
  rw [e1, e2]
  exact (pk_lLE (a := 1 + q) (b := 9) (by omega) (by decide)).trans (nI_leI (a := 1 + q) (b := 9) (by omega) (by decide)).symm
theorem cn_ne {a b : Nat} (ha : a < 100) (hb : b < 100) (h : a ≠ b) : ¬ nI a = nI b := fun z => h ((nI_eq (by omega) (by omega)).mp z)
theorem cCnt_0 {S : Dk} {h zn : Nat} : cCnt S h zn (nI 0) = nI (kn S) := by
  unfold cCnt
  exact if_pos rfl
theorem cCnt_1 {S : Dk} {h zn : Nat} : cCnt S h zn (nI 1) = kf S 0 := by
  unfold cCnt
  rw [if_neg (show ¬ nI 1 = (0 : Int32) from cn_ne (b := 0) (by decide) (by decide) (by decide))]
  exact if_pos rfl
theorem cCnt_2 {S : Dk} {h zn : Nat} : cCnt S h zn (nI 2) = kf S 1 := by
  unfold cCnt
  rw [if_neg (show ¬ nI 2 = (0 : Int32) from cn_ne (b := 0) (by decide) (by decide) (by decide)), if_neg (show ¬ nI 2 = (1 : Int32) from cn_ne (b := 1) (by decide) (by decide) (by decide))]
  exact if_pos rfl
theorem cCnt_3 {S : Dk} {h zn : Nat} : cCnt S h zn (nI 3) = kf S 2 := by
  unfold cCnt
  rw [if_neg (show ¬ nI 3 = (0 : Int32) from cn_ne (b := 0) (by decide) (by decide) (by decide)), if_neg (show ¬ nI 3 = (1 : Int32) from cn_ne (b := 1) (by decide) (by decide) (by decide)), if_neg (show ¬ nI 3 = (2 : Int32) from cn_ne (b := 2) (by decide) (by decide) (by decide))]
  exact if_pos rfl
theorem cCnt_4 {S : Dk} {h zn : Nat} : cCnt S h zn (nI 4) = kf S 3 := by
  unfold cCnt
  rw [if_neg (show ¬ nI 4 = (0 : Int32) from cn_ne (b := 0) (by decide) (by decide) (by decide)), if_neg (show ¬ nI 4 = (1 : Int32) from cn_ne (b := 1) (by decide) (by decide) (by decide)), if_neg (show ¬ nI 4 = (2 : Int32) from cn_ne (b := 2) (by decide) (by decide) (by decide)), if_neg (show ¬ nI 4 = (3 : Int32) from cn_ne (b := 3) (by decide) (by decide) (by decide))]
  exact if_pos rfl
theorem cCnt_5 {S : Dk} {h zn : Nat} : cCnt S h zn (nI 5) = ks S 0 := by
  unfold cCnt
  rw [if_neg (show ¬ nI 5 = (0 : Int32) from cn_ne (b := 0) (by decide) (by decide) (by decide)), if_neg (show ¬ nI 5 = (1 : Int32) from cn_ne (b := 1) (by decide) (by decide) (by decide)), if_neg (show ¬ nI 5 = (2 : Int32) from cn_ne (b := 2) (by decide) (by decide) (by decide)), if_neg (show ¬ nI 5 = (3 : Int32) from cn_ne (b := 3) (by decide) (by decide) (by decide)), if_neg (show ¬ nI 5 = (4 : Int32) from cn_ne (b := 4) (by decide) (by decide) (by decide))]
  exact if_pos rfl
theorem cCnt_6 {S : Dk} {h zn : Nat} : cCnt S h zn (nI 6) = ks S 1 := by
  unfold cCnt
  rw [if_neg (show ¬ nI 6 = (0 : Int32) from cn_ne (b := 0) (by decide) (by decide) (by decide)), if_neg (show ¬ nI 6 = (1 : Int32) from cn_ne (b := 1) (by decide) (by decide) (by decide)), if_neg (show ¬ nI 6 = (2 : Int32) from cn_ne (b := 2) (by decide) (by decide) (by decide)), if_neg (show ¬ nI 6 = (3 : Int32) from cn_ne (b := 3) (by decide) (by decide) (by decide)), if_neg (show ¬ nI 6 = (4 : Int32) from cn_ne (b := 4) (by decide) (by decide) (by decide)), if_neg (show ¬ nI 6 = (5 : Int32) from cn_ne (b := 5) (by decide) (by decide) (by decide))]
  exact if_pos rfl
theorem cCnt_7 {S : Dk} {h zn : Nat} : cCnt S h zn (nI 7) = ks S 2 := by
  unfold cCnt
  rw [if_neg (show ¬ nI 7 = (0 : Int32) from cn_ne (b := 0) (by decide) (by decide) (by decide)), if_neg (show ¬ nI 7 = (1 : Int32) from cn_ne (b := 1) (by decide) (by decide) (by decide)), if_neg (show ¬ nI 7 = (2 : Int32) from cn_ne (b := 2) (by decide) (by decide) (by decide)), if_neg (show ¬ nI 7 = (3 : Int32) from cn_ne (b := 3) (by decide) (by decide) (by decide)), if_neg (show ¬ nI 7 = (4 : Int32) from cn_ne (b := 4) (by decide) (by decide) (by decide)), if_neg (show ¬ nI 7 = (5 : Int32) from cn_ne (b := 5) (by decide) (by decide) (by decide)), if_neg (show ¬ nI 7 = (6 : Int32) from cn_ne (b := 6) (by decide) (by decide) (by decide))]
  exact if_pos rfl
theorem cCnt_8 {S : Dk} {h zn : Nat} : cCnt S h zn (nI 8) = ks S 3 := by
  unfold cCnt
  rw [if_neg (show ¬ nI 8 = (0 : Int32) from cn_ne (b := 0) (by decide) (by decide) (by decide)), if_neg (show ¬ nI 8 = (1 : Int32) from cn_ne (b := 1) (by decide) (by decide) (by decide)), if_neg (show ¬ nI 8 = (2 : Int32) from cn_ne (b := 2) (by decide) (by decide) (by decide)), if_neg (show ¬ nI 8 = (3 : Int32) from cn_ne (b := 3) (by decide) (by decide) (by decide)), if_neg (show ¬ nI 8 = (4 : Int32) from cn_ne (b := 4) (by decide) (by decide) (by decide)), if_neg (show ¬ nI 8 = (5 : Int32) from cn_ne (b := 5) (by decide) (by decide) (by decide)), if_neg (show ¬ nI 8 = (6 : Int32) from cn_ne (b := 6) (by decide) (by decide) (by decide)), if_neg (show ¬ nI 8 = (7 : Int32) from cn_ne (b := 7) (by decide) (by decide) (by decide))]
  exact if_pos rfl
theorem cCnt_9 {S : Dk} {h zn : Nat} : cCnt S h zn (nI 9) = ks S 4 := by
  unfold cCnt
  rw [if_neg (show ¬ nI 9 = (0 : Int32) from cn_ne (b := 0) (by decide) (by decide) (by decide)), if_neg (show ¬ nI 9 = (1 : Int32) from cn_ne (b := 1) (by decide) (by decide) (by decide)), if_neg (show ¬ nI 9 = (2 : Int32) from cn_ne (b := 2) (by decide) (by decide) (by decide)), if_neg (show ¬ nI 9 = (3 : Int32) from cn_ne (b := 3) (by decide) (by decide) (by decide)), if_neg (show ¬ nI 9 = (4 : Int32) from cn_ne (b := 4) (by decide) (by decide) (by decide)), if_neg (show ¬ nI 9 = (5 : Int32) from cn_ne (b := 5) (by decide) (by decide) (by decide)), if_neg (show ¬ nI 9 = (6 : Int32) from cn_ne (b := 6) (by decide) (by decide) (by decide)), if_neg (show ¬ nI 9 = (7 : Int32) from cn_ne (b := 7) (by decide) (by decide) (by decide)), if_neg (show ¬ nI 9 = (8 : Int32) from cn_ne (b := 8) (by decide) (by decide) (by decide))]
  exact if_pos rfl
theorem cCnt_10 {S : Dk} {h zn : Nat} : cCnt S h zn (nI 10) = kf S 5 := by
  unfold cCnt
  rw [if_neg (show ¬ nI 10 = (0 : Int32) from cn_ne (b := 0) (by decide) (by decide) (by decide)), if_neg (show ¬ nI 10 = (1 : Int32) from cn_ne (b := 1) (by decide) (by decide) (by decide)), if_neg (show ¬ nI 10 = (2 : Int32) from cn_ne (b := 2) (by decide) (by decide) (by decide)), if_neg (show ¬ nI 10 = (3 : Int32) from cn_ne (b := 3) (by decide) (by decide) (by decide)), if_neg (show ¬ nI 10 = (4 : Int32) from cn_ne (b := 4) (by decide) (by decide) (by decide)), if_neg (show ¬ nI 10 = (5 : Int32) from cn_ne (b := 5) (by decide) (by decide) (by decide)), if_neg (show ¬ nI 10 = (6 : Int32) from cn_ne (b := 6) (by decide) (by decide) (by decide)), if_neg (show ¬ nI 10 = (7 : Int32) from cn_ne (b := 7) (by decide) (by decide) (by decide)), if_neg (show ¬ nI 10 = (8 : Int32) from cn_ne (b := 8) (by decide) (by decide) (by decide)), if_neg (show ¬ nI 10 = (9 : Int32) from cn_ne (b := 9) (by decide) (by decide) (by decide))]
  exact if_pos rfl
theorem cCnt_11 {S : Dk} {h zn : Nat} : cCnt S h zn (nI 11) = (if ¬ sWorn S ≤ 9 then 1 else 0) := by
  unfold cCnt
  rw [if_neg (show ¬ nI 11 = (0 : Int32) from cn_ne (b := 0) (by decide) (by decide) (by decide)), if_neg (show ¬ nI 11 = (1 : Int32) from cn_ne (b := 1) (by decide) (by decide) (by decide)), if_neg (show ¬ nI 11 = (2 : Int32) from cn_ne (b := 2) (by decide) (by decide) (by decide)), if_neg (show ¬ nI 11 = (3 : Int32) from cn_ne (b := 3) (by decide) (by decide) (by decide)), if_neg (show ¬ nI 11 = (4 : Int32) from cn_ne (b := 4) (by decide) (by decide) (by decide)), if_neg (show ¬ nI 11 = (5 : Int32) from cn_ne (b := 5) (by decide) (by decide) (by decide)), if_neg (show ¬ nI 11 = (6 : Int32) from cn_ne (b := 6) (by decide) (by decide) (by decide)), if_neg (show ¬ nI 11 = (7 : Int32) from cn_ne (b := 7) (by decide) (by decide) (by decide)), if_neg (show ¬ nI 11 = (8 : Int32) from cn_ne (b := 8) (by decide) (by decide) (by decide)), if_neg (show ¬ nI 11 = (9 : Int32) from cn_ne (b := 9) (by decide) (by decide) (by decide)), if_neg (show ¬ nI 11 = (10 : Int32) from cn_ne (b := 10) (by decide) (by decide) (by decide))]
  exact if_pos rfl
theorem cCnt_12 {S : Dk} {h zn : Nat} : cCnt S h zn (nI 12) = kf S 6 := by
  unfold cCnt
  rw [if_neg (show ¬ nI 12 = (0 : Int32) from cn_ne (b := 0) (by decide) (by decide) (by decide)), if_neg (show ¬ nI 12 = (1 : Int32) from cn_ne (b := 1) (by decide) (by decide) (by decide)), if_neg (show ¬ nI 12 = (2 : Int32) from cn_ne (b := 2) (by decide) (by decide) (by decide)), if_neg (show ¬ nI 12 = (3 : Int32) from cn_ne (b := 3) (by decide) (by decide) (by decide)), if_neg (show ¬ nI 12 = (4 : Int32) from cn_ne (b := 4) (by decide) (by decide) (by decide)), if_neg (show ¬ nI 12 = (5 : Int32) from cn_ne (b := 5) (by decide) (by decide) (by decide)), if_neg (show ¬ nI 12 = (6 : Int32) from cn_ne (b := 6) (by decide) (by decide) (by decide)), if_neg (show ¬ nI 12 = (7 : Int32) from cn_ne (b := 7) (by decide) (by decide) (by decide)), if_neg (show ¬ nI 12 = (8 : Int32) from cn_ne (b := 8) (by decide) (by decide) (by decide)), if_neg (show ¬ nI 12 = (9 : Int32) from cn_ne (b := 9) (by decide) (by decide) (by decide)), if_neg (show ¬ nI 12 = (10 : Int32) from cn_ne (b := 10) (by decide) (by decide) (by decide)), if_neg (show ¬ nI 12 = (11 : Int32) from cn_ne (b := 11) (by decide) (by decide) (by decide))]
  exact if_pos rfl
theorem cCnt_13 {S : Dk} {h zn : Nat} : cCnt S h zn (nI 13) = kf S 7 := by
  unfold cCnt
  rw [if_neg (show ¬ nI 13 = (0 : Int32) from cn_ne (b := 0) (by decide) (by decide) (by decide)), if_neg (show ¬ nI 13 = (1 : Int32) from cn_ne (b := 1) (by decide) (by decide) (by decide)), if_neg (show ¬ nI 13 = (2 : Int32) from cn_ne (b := 2) (by decide) (by decide) (by decide)), if_neg (show ¬ nI 13 = (3 : Int32) from cn_ne (b := 3) (by decide) (by decide) (by decide)), if_neg (show ¬ nI 13 = (4 : Int32) from cn_ne (b := 4) (by decide) (by decide) (by decide)), if_neg (show ¬ nI 13 = (5 : Int32) from cn_ne (b := 5) (by decide) (by decide) (by decide)), if_neg (show ¬ nI 13 = (6 : Int32) from cn_ne (b := 6) (by decide) (by decide) (by decide)), if_neg (show ¬ nI 13 = (7 : Int32) from cn_ne (b := 7) (by decide) (by decide) (by decide)), if_neg (show ¬ nI 13 = (8 : Int32) from cn_ne (b := 8) (by decide) (by decide) (by decide)), if_neg (show ¬ nI 13 = (9 : Int32) from cn_ne (b := 9) (by decide) (by decide) (by decide)), if_neg (show ¬ nI 13 = (10 : Int32) from cn_ne (b := 10) (by decide) (by decide) (by decide)), if_neg (show ¬ nI 13 = (11 : Int32) from cn_ne (b := 11) (by decide) (by decide) (by decide)), if_neg (show ¬ nI 13 = (12 : Int32) from cn_ne (b := 12) (by decide) (by decide) (by decide))]
  exact if_pos rfl
theorem cCnt_14 {S : Dk} {h zn : Nat} : cCnt S h zn (nI 14) = kf S 8 := by
  unfold cCnt
  rw [if_neg (show ¬ nI 14 = (0 : Int32) from cn_ne (b := 0) (by decide) (by decide) (by decide)), if_neg (show ¬ nI 14 = (1 : Int32) from cn_ne (b := 1) (by decide) (by decide) (by decide)), if_neg (show ¬ nI 14 = (2 : Int32) from cn_ne (b := 2) (by decide) (by decide) (by decide)), if_neg (show ¬ nI 14 = (3 : Int32) from cn_ne (b := 3) (by decide) (by decide) (by decide)), if_neg (show ¬ nI 14 = (4 : Int32) from cn_ne (b := 4) (by decide) (by decide) (by decide)), if_neg (show ¬ nI 14 = (5 : Int32) from cn_ne (b := 5) (by decide) (by decide) (by decide)), if_neg (show ¬ nI 14 = (6 : Int32) from cn_ne (b := 6) (by decide) (by decide) (by decide)), if_neg (show ¬ nI 14 = (7 : Int32) from cn_ne (b := 7) (by decide) (by decide) (by decide)), if_neg (show ¬ nI 14 = (8 : Int32) from cn_ne (b := 8) (by decide) (by decide) (by decide)), if_neg (show ¬ nI 14 = (9 : Int32) from cn_ne (b := 9) (by decide) (by decide) (by decide)), if_neg (show ¬ nI 14 = (10 : Int32) from cn_ne (b := 10) (by decide) (by decide) (by decide)), if_neg (show ¬ nI 14 = (11 : Int32) from cn_ne (b := 11) (by decide) (by decide) (by decide)), if_neg (show ¬ nI 14 = (12 : Int32) from cn_ne (b := 12) (by decide) (by decide) (by decide)), if_neg (show ¬ nI 14 = (13 : Int32) from cn_ne (b := 13) (by decide) (by decide) (by decide))]
  exact if_pos rfl
theorem cCnt_15 {S : Dk} {h zn : Nat} : cCnt S h zn (nI 15) = kf S 9 := by
  unfold cCnt
  rw [if_neg (show ¬ nI 15 = (0 : Int32) from cn_ne (b := 0) (by decide) (by decide) (by decide)), if_neg (show ¬ nI 15 = (1 : Int32) from cn_ne (b := 1) (by decide) (by decide) (by decide)), if_neg (show ¬ nI 15 = (2 : Int32) from cn_ne (b := 2) (by decide) (by decide) (by decide)), if_neg (show ¬ nI 15 = (3 : Int32) from cn_ne (b := 3) (by decide) (by decide) (by decide)), if_neg (show ¬ nI 15 = (4 : Int32) from cn_ne (b := 4) (by decide) (by decide) (by decide)), if_neg (show ¬ nI 15 = (5 : Int32) from cn_ne (b := 5) (by decide) (by decide) (by decide)), if_neg (show ¬ nI 15 = (6 : Int32) from cn_ne (b := 6) (by decide) (by decide) (by decide)), if_neg (show ¬ nI 15 = (7 : Int32) from cn_ne (b := 7) (by decide) (by decide) (by decide)), if_neg (show ¬ nI 15 = (8 : Int32) from cn_ne (b := 8) (by decide) (by decide) (by decide)), if_neg (show ¬ nI 15 = (9 : Int32) from cn_ne (b := 9) (by decide) (by decide) (by decide)), if_neg (show ¬ nI 15 = (10 : Int32) from cn_ne (b := 10) (by decide) (by decide) (by decide)), if_neg (show ¬ nI 15 = (11 : Int32) from cn_ne (b := 11) (by decide) (by decide) (by decide)), if_neg (show ¬ nI 15 = (12 : Int32) from cn_ne (b := 12) (by decide) (by decide) (by decide)), if_neg (show ¬ nI 15 = (13 : Int32) from cn_ne (b := 13) (by decide) (by decide) (by decide)), if_neg (show ¬ nI 15 = (14 : Int32) from cn_ne (b := 14) (by decide) (by decide) (by decide))]
  exact if_pos rfl
theorem cCnt_16 {S : Dk} {h zn : Nat} : cCnt S h zn (nI 16) = nI h := by
  unfold cCnt
  rw [if_neg (show ¬ nI 16 = (0 : Int32) from cn_ne (b := 0) (by decide) (by decide) (by decide)), if_neg (show ¬ nI 16 = (1 : Int32) from cn_ne (b := 1) (by decide) (by decide) (by decide)), if_neg (show ¬ nI 16 = (2 : Int32) from cn_ne (b := 2) (by decide) (by decide) (by decide)), if_neg (show ¬ nI 16 = (3 : Int32) from cn_ne (b := 3) (by decide) (by decide) (by decide)), if_neg (show ¬ nI 16 = (4 : Int32) from cn_ne (b := 4) (by decide) (by decide) (by decide)), if_neg (show ¬ nI 16 = (5 : Int32) from cn_ne (b := 5) (by decide) (by decide) (by decide)), if_neg (show ¬ nI 16 = (6 : Int32) from cn_ne (b := 6) (by decide) (by decide) (by decide)), if_neg (show ¬ nI 16 = (7 : Int32) from cn_ne (b := 7) (by decide) (by decide) (by decide)), if_neg (show ¬ nI 16 = (8 : Int32) from cn_ne (b := 8) (by decide) (by decide) (by decide)), if_neg (show ¬ nI 16 = (9 : Int32) from cn_ne (b := 9) (by decide) (by decide) (by decide)), if_neg (show ¬ nI 16 = (10 : Int32) from cn_ne (b := 10) (by decide) (by decide) (by decide)), if_neg (show ¬ nI 16 = (11 : Int32) from cn_ne (b := 11) (by decide) (by decide) (by decide)), if_neg (show ¬ nI 16 = (12 : Int32) from cn_ne (b := 12) (by decide) (by decide) (by decide)), if_neg (show ¬ nI 16 = (13 : Int32) from cn_ne (b := 13) (by decide) (by decide) (by decide)), if_neg (show ¬ nI 16 = (14 : Int32) from cn_ne (b := 14) (by decide) (by decide) (by decide)), if_neg (show ¬ nI 16 = (15 : Int32) from cn_ne (b := 15) (by decide) (by decide) (by decide))]
  exact if_pos rfl
theorem cCnt_17 {S : Dk} {h zn : Nat} : cCnt S h zn (nI 17) = nI zn := by
  unfold cCnt
  rw [if_neg (show ¬ nI 17 = (0 : Int32) from cn_ne (b := 0) (by decide) (by decide) (by decide)), if_neg (show ¬ nI 17 = (1 : Int32) from cn_ne (b := 1) (by decide) (by decide) (by decide)), if_neg (show ¬ nI 17 = (2 : Int32) from cn_ne (b := 2) (by decide) (by decide) (by decide)), if_neg (show ¬ nI 17 = (3 : Int32) from cn_ne (b := 3) (by decide) (by decide) (by decide)), if_neg (show ¬ nI 17 = (4 : Int32) from cn_ne (b := 4) (by decide) (by decide) (by decide)), if_neg (show ¬ nI 17 = (5 : Int32) from cn_ne (b := 5) (by decide) (by decide) (by decide)), if_neg (show ¬ nI 17 = (6 : Int32) from cn_ne (b := 6) (by decide) (by decide) (by decide)), if_neg (show ¬ nI 17 = (7 : Int32) from cn_ne (b := 7) (by decide) (by decide) (by decide)), if_neg (show ¬ nI 17 = (8 : Int32) from cn_ne (b := 8) (by decide) (by decide) (by decide)), if_neg (show ¬ nI 17 = (9 : Int32) from cn_ne (b := 9) (by decide) (by decide) (by decide)), if_neg (show ¬ nI 17 = (10 : Int32) from cn_ne (b := 10) (by decide) (by decide) (by decide)), if_neg (show ¬ nI 17 = (11 : Int32) from cn_ne (b := 11) (by decide) (by decide) (by decide)), if_neg (show ¬ nI 17 = (12 : Int32) from cn_ne (b := 12) (by decide) (by decide) (by decide)), if_neg (show ¬ nI 17 = (13 : Int32) from cn_ne (b := 13) (by decide) (by decide) (by decide)), if_neg (show ¬ nI 17 = (14 : Int32) from cn_ne (b := 14) (by decide) (by decide) (by decide)), if_neg (show ¬ nI 17 = (15 : Int32) from cn_ne (b := 15) (by decide) (by decide) (by decide)), if_neg (show ¬ nI 17 = (16 : Int32) from cn_ne (b := 16) (by decide) (by decide) (by decide))]
  exact if_pos rfl
theorem mCnt_0 {f : Nat → Int64} {h zn : Nat} : mCnt f h zn (nI 0) = (f 14).toInt32 := by
  unfold mCnt
  exact if_pos rfl
theorem mCnt_11 {f : Nat → Int64} {h zn : Nat} : mCnt f h zn (nI 11) = bi (¬ 1 + f 9 / f 8 ≤ 9) := by
  unfold mCnt
  rw [if_neg (show ¬ nI 11 = (0 : Int32) from cn_ne (b := 0) (by decide) (by decide) (by decide))]
  exact if_pos rfl
theorem mCnt_12 {f : Nat → Int64} {h zn : Nat} : mCnt f h zn (nI 12) = 10 - (f 10).toInt32 := by
  unfold mCnt
  rw [if_neg (show ¬ nI 12 = (0 : Int32) from cn_ne (b := 0) (by decide) (by decide) (by decide)), if_neg (show ¬ nI 12 = (11 : Int32) from cn_ne (b := 11) (by decide) (by decide) (by decide))]
  exact if_pos rfl
theorem mCnt_13 {f : Nat → Int64} {h zn : Nat} : mCnt f h zn (nI 13) = (f 11).toInt32 := by
  unfold mCnt
  rw [if_neg (show ¬ nI 13 = (0 : Int32) from cn_ne (b := 0) (by decide) (by decide) (by decide)), if_neg (show ¬ nI 13 = (11 : Int32) from cn_ne (b := 11) (by decide) (by decide) (by decide)), if_neg (show ¬ nI 13 = (12 : Int32) from cn_ne (b := 12) (by decide) (by decide) (by decide))]
  exact if_pos rfl
theorem mCnt_14 {f : Nat → Int64} {h zn : Nat} : mCnt f h zn (nI 14) = (f 12).toInt32 := by
  unfold mCnt
  rw [if_neg (show ¬ nI 14 = (0 : Int32) from cn_ne (b := 0) (by decide) (by decide) (by decide)), if_neg (show ¬ nI 14 = (11 : Int32) from cn_ne (b := 11) (by decide) (by decide) (by decide)), if_neg (show ¬ nI 14 = (12 : Int32) from cn_ne (b := 12) (by decide) (by decide) (by decide)), if_neg (show ¬ nI 14 = (13 : Int32) from cn_ne (b := 13) (by decide) (by decide) (by decide))]
  exact if_pos rfl
theorem mCnt_15 {f : Nat → Int64} {h zn : Nat} : mCnt f h zn (nI 15) = (f 13).toInt32 := by
  unfold mCnt
  rw [if_neg (show ¬ nI 15 = (0 : Int32) from cn_ne (b := 0) (by decide) (by decide) (by decide)), if_neg (show ¬ nI 15 = (11 : Int32) from cn_ne (b := 11) (by decide) (by decide) (by decide)), if_neg (show ¬ nI 15 = (12 : Int32) from cn_ne (b := 12) (by decide) (by decide) (by decide)), if_neg (show ¬ nI 15 = (13 : Int32) from cn_ne (b := 13) (by decide) (by decide) (by decide)), if_neg (show ¬ nI 15 = (14 : Int32) from cn_ne (b := 14) (by decide) (by decide) (by decide))]
  exact if_pos rfl
theorem mCnt_16 {f : Nat → Int64} {h zn : Nat} : mCnt f h zn (nI 16) = nI h := by
  unfold mCnt
  rw [if_neg (show ¬ nI 16 = (0 : Int32) from cn_ne (b := 0) (by decide) (by decide) (by decide)), if_neg (show ¬ nI 16 = (11 : Int32) from cn_ne (b := 11) (by decide) (by decide) (by decide)), if_neg (show ¬ nI 16 = (12 : Int32) from cn_ne (b := 12) (by decide) (by decide) (by decide)), if_neg (show ¬ nI 16 = (13 : Int32) from cn_ne (b := 13) (by decide) (by decide) (by decide)), if_neg (show ¬ nI 16 = (14 : Int32) from cn_ne (b := 14) (by decide) (by decide) (by decide)), if_neg (show ¬ nI 16 = (15 : Int32) from cn_ne (b := 15) (by decide) (by decide) (by decide))]
  exact if_pos rfl
theorem mCnt_17 {f : Nat → Int64} {h zn : Nat} : mCnt f h zn (nI 17) = nI zn := by
  unfold mCnt
  rw [if_neg (show ¬ nI 17 = (0 : Int32) from cn_ne (b := 0) (by decide) (by decide) (by decide)), if_neg (show ¬ nI 17 = (11 : Int32) from cn_ne (b := 11) (by decide) (by decide) (by decide)), if_neg (show ¬ nI 17 = (12 : Int32) from cn_ne (b := 12) (by decide) (by decide) (by decide)), if_neg (show ¬ nI 17 = (13 : Int32) from cn_ne (b := 13) (by decide) (by decide) (by decide)), if_neg (show ¬ nI 17 = (14 : Int32) from cn_ne (b := 14) (by decide) (by decide) (by decide)), if_neg (show ¬ nI 17 = (15 : Int32) from cn_ne (b := 15) (by decide) (by decide) (by decide)), if_neg (show ¬ nI 17 = (16 : Int32) from cn_ne (b := 16) (by decide) (by decide) (by decide))]
  exact if_pos rfl
theorem rel_count {f : Nat → Int64} {S : Dk} {h zn : Nat} {w : Int32} (g : Rel f S) : mCnt f h zn w = cCnt S h zn w := by
  have p := g.h
  by_cases e : 0 ≤ w.toInt ∧ w.toInt ≤ 17
  · obtain ⟨k, hk, rfl⟩ := rg_n (N := 17) e (by decide)
    have q : k = 0 ∨ k = 1 ∨ k = 2 ∨ k = 3 ∨ k = 4 ∨ k = 5 ∨ k = 6 ∨ k = 7 ∨ k = 8 ∨ k = 9 ∨ k = 10 ∨ k = 11 ∨ k = 12 ∨ k = 13 ∨ k = 14 ∨ k = 15 ∨ k = 16 ∨ k = 17 := by omega
    rcases q with rfl | rfl | rfl | rfl | rfl | rfl | rfl | rfl | rfl | rfl | rfl | rfl | rfl | rfl | rfl | rfl | rfl | rfl
    · rw [mCnt_0, cCnt_0, p.2.2.2.2.2, lN_i]
    · rw [cCnt_1, show mCnt f h zn (nI 1) = _ from mCnt_in (j := 0) (by decide), p.1.1, i64_32]
    · rw [cCnt_2, show mCnt f h zn (nI 2) = _ from mCnt_in (j := 1) (by decide), p.1.2.1, i64_32]
    · rw [cCnt_3, show mCnt f h zn (nI 3) = _ from mCnt_in (j := 2) (by decide), p.1.2.2.1, i64_32]
    · rw [cCnt_4, show mCnt f h zn (nI 4) = _ from mCnt_in (j := 3) (by decide), p.1.2.2.2, i64_32]
    · rw [cCnt_5, show mCnt f h zn (nI 5) = _ from mCnt_in (j := 4) (by decide), p.2.1.1, i64_32]
    · rw [cCnt_6, show mCnt f h zn (nI 6) = _ from mCnt_in (j := 5) (by decide), p.2.1.2.1, i64_32]
    · rw [cCnt_7, show mCnt f h zn (nI 7) = _ from mCnt_in (j := 6) (by decide), p.2.1.2.2.1, i64_32]
    · rw [cCnt_8, show mCnt f h zn (nI 8) = _ from mCnt_in (j := 7) (by decide), p.2.1.2.2.2.1, i64_32]
    · rw [cCnt_9, show mCnt f h zn (nI 9) = _ from mCnt_in (j := 8) (by decide), p.2.1.2.2.2.2, i64_32]
    · rw [cCnt_10, show mCnt f h zn (nI 10) = _ from mCnt_in (j := 9) (by decide), p.2.2.1, i64_32]
    · rw [mCnt_11, cCnt_11]
      unfold bi
      by_cases z : sWorn S ≤ 9
      · rw [if_neg (fun q => q ((rel_blunt g).mpr z)), if_neg (fun q => q z)]
      · rw [if_pos (fun q => z ((rel_blunt g).mp q)), if_pos z]
    · rw [mCnt_12, cCnt_12]
      obtain ⟨n, hn, en⟩ := rg_n (N := 10) g.r.2.2.2 (by decide)
      rw [p.2.2.2.1, en, nI_toInt (by omega), J_nn (by omega), lN_i]
      refine (pk_sub (a := 10) (b := (10 - (n : Int)).toNat) (by omega)).trans ?_
      congr 1; omega
    · rw [mCnt_13, cCnt_13, p.2.2.2.2.1.1]
    · rw [mCnt_14, cCnt_14, p.2.2.2.2.1.2.1]
    · rw [mCnt_15, cCnt_15, p.2.2.2.2.1.2.2]
    · rw [mCnt_16, cCnt_16]
    · rw [mCnt_17, cCnt_17]
  · have o : w.toInt < 0 ∨ 17 < w.toInt := by omega
    have n1 : ¬ okR w 1 10 := fun z => by have := ok_rg z (p := 1) (q := 10) rfl rfl; omega
    rw [mCnt_out o n1]
    unfold cCnt
    rw [if_neg (sw_no (z := 0) o (by decide) (by decide)), if_neg (sw_no (z := 1) o (by decide) (by decide)), if_neg (sw_no (z := 2) o (by decide) (by decide)), if_neg (sw_no (z := 3) o (by decide) (by decide)), if_neg (sw_no (z := 4) o (by decide) (by decide)), if_neg (sw_no (z := 5) o (by decide) (by decide)), if_neg (sw_no (z := 6) o (by decide) (by decide)), if_neg (sw_no (z := 7) o (by decide) (by decide)), if_neg (sw_no (z := 8) o (by decide) (by decide)), if_neg (sw_no (z := 9) o (by decide) (by decide)), if_neg (sw_no (z := 10) o (by decide) (by decide)), if_neg (sw_no (z := 11) o (by decide) (by decide)), if_neg (sw_no (z := 12) o (by decide) (by decide)), if_neg (sw_no (z := 13) o (by decide) (by decide)), if_neg (sw_no (z := 14) o (by decide) (by decide)), if_neg (sw_no (z := 15) o (by decide) (by decide)), if_neg (sw_no (z := 16) o (by decide) (by decide)), if_neg (sw_no (z := 17) o (by decide) (by decide))]
/-! draw -/
theorem bgF_c {f : Nat → Int64} {n : Nat} : bgF f n (hdC n 1) = -1 ∧ bgF f n (hdC n 2) = 1 ∧ bgF f n (hdC n 3) = 1 ∧ bgF f n (hdC n 4) = 1 ∧ bgF f n (hdC n 5) = 1 ∧ bgF f n (hdC n 6) = 0 ∧ bgF f n (hdC n 7) = 1 ∧ bgF f n (hdC n 8) = 0 ∧ bgF f n (hdC n 9) = 1 := by
  refine ⟨?_, ?_, ?_, ?_, ?_, ?_, ?_, ?_, ?_⟩ <;> simp [bgF, va_up, hdC, bgL]
theorem bgF_z {f : Nat → Int64} {n c : Nat} (h1 : 25 + 150 * n ≤ c) (h2 : c < 165 + 150 * n) : bgF f n c = 0 := by
  unfold bgF
  rw [va_up_ne _ _ (by unfold hdC; omega), va_up_ne _ _ (by unfold hdC; omega), va_up_ne _ _ (by unfold hdC; omega), va_up_ne _ _ (by unfold hdC; omega), va_up_ne _ _ (by unfold hdC; omega), va_up_ne _ _ (by unfold hdC; omega), va_up_ne _ _ (by unfold hdC; omega)]
  unfold bgL
  rw [if_pos (by omega)]
theorem PH_bg {f f' : Nat → Int64} {S : Dk} {b : Nat → Dr} (h : PH f S) (hc : ∀ c, c < 14 → f' c = f c) (h14 : f' 14 = lN (kn S + 1)) : PH f' (kf S, ks S, kn S + 1, b) := by
  unfold PH at h ⊢
  rw [hc 0 (by decide), hc 1 (by decide), hc 2 (by decide), hc 3 (by decide), hc 4 (by decide), hc 5 (by decide), hc 6 (by decide), hc 7 (by decide), hc 8 (by decide), hc 9 (by decide), hc 10 (by decide), hc 11 (by decide), hc 12 (by decide), hc 13 (by decide), h14]
  exact ⟨h.1, h.2.1, h.2.2.1, h.2.2.2.1, h.2.2.2.2.1, rfl⟩
theorem PE_bg {f : Nat → Int64} {n : Nat} : PE (bgF f n) n (dBegin (-1) 1 1) := by
  obtain ⟨c1, c2, c3, c4, c5, c6, c7, c8, c9⟩ := bgF_c (f := f) (n := n)
  refine ⟨bgF_hd, c1, ⟨c2.trans ?_, c3.trans ?_⟩, ⟨c4, c5⟩, ⟨c6.trans ?_, c7.trans ?_⟩, c8.trans ?_, c9.trans ?_⟩ <;> decide
theorem CI_bg : CIv (dBegin (-1) 1 1) 0 := ⟨by decide, by decide, by decide, fun i hi => absurd hi (Nat.not_lt_zero i), by decide, Or.inl rfl, Or.inl rfl⟩
theorem rel_begin {f : Nat → Int64} {S : Dk} (g : Rel f S) (hn : kn S < 6) : Rel (bgF f (kn S)) (kf S, ks S, kn S + 1, va_up (kdr S) (kn S) (dBegin (-1) 1 1)) :=
  g.add hn (fun c h1 h2 => bgF_lo h2 (by omega)) (PH_bg g.h (fun c hc => bgF_lo (by omega) (by omega)) (by rw [bgF_14, g.h.2.2.2.2.2, lN_1])) g.r ⟨PE_bg, fun i hi => absurd hi (Nat.not_lt_zero i)⟩ ⟨fun i hi => absurd hi (Nat.not_lt_zero i), fun z => absurd z (Nat.lt_irrefl 0)⟩ CI_bg (fun K _ c => ⟨0, c, Or.inl ⟨rfl, rfl⟩⟩)
theorem rel_draw {f : Nat → Int64} {S : Dk} (g : Rel f S) : (mDrw f (kn S)).1 = (cDrw S).1 ∧ RelA (cDrw S).2 (mDrw f (kn S)).2 := by
  have n6 := g.n6
  unfold mDrw cDrw
  by_cases e : kn S = 6
  · rw [if_pos e, if_neg (by omega)]; exact ⟨rfl, trivial⟩
  · rw [if_neg e, if_pos (by omega)]
    exact ⟨rfl, rel_begin g (by omega)⟩

