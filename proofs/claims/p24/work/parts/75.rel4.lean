/-! drawing -/
theorem on_eq {f : Nat → Int64} {S : Dk} {j i : Nat} {d : Dr} (h : PP f (ceC j i) d i) (h6 : f 6 = (ks S 2).toInt64) (h7 : f 7 = (ks S 3).toInt64) (r2 : Rg (ks S 2) 10 1000) (r3 : Rg (ks S 3) 10 1000) (hp : 0 < iP d) (bp : iP d ≤ 3200000) (b1 : Ab (iX d i) 1000000000000) (b2 : Ab (iY d i) 1000000000000) (hi : i < rn d) (h20 : rn d ≤ 20) : (onP f j i = true ↔ onB S d (nI i) = true) ∧ (onP f j i = true → (0 ≤ iX d i ∧ iX d i ≤ 1000 * iP d) ∧ 0 ≤ iY d i ∧ iY d i ≤ 1000 * iP d) := by
  have z := on_ok h.1.1 h.1.2.1 h.1.2.2.1 h.1.2.2.2 (h6.trans (i32_J _)) (h7.trans (i32_J _)) (by omega) r2.2 (by omega) r3.2 hp (by omega) (b1.w (by decide)) (b2.w (by decide))
  have v := vX_n hi h20
  have m1 := Int.mul_le_mul r2.2 (Int.le_refl (iP d)) (by omega) (by decide)
  have m2 := Int.mul_le_mul r3.2 (Int.le_refl (iP d)) (by omega) (by decide)
  have m3 := Int.mul_nonneg (show 0 ≤ (ks S 2).toInt by omega) (show 0 ≤ iP d by omega)
  have m4 := Int.mul_nonneg (show 0 ≤ (ks S 3).toInt by omega) (show 0 ≤ iP d by omega)
  have lo : ∀ {x : Int64} {c : Int}, x = J c → Ab c 1000000000000 → (x < 0 ↔ c < 0) := fun {x c} ex bc => by
    rw [ex]; exact J_lt (b := 0) (Bd_of bc (by decide)) (by decide)
  have hi2 : ∀ {x : Int64} {c u : Int}, x = J c → Ab c 1000000000000 → 0 ≤ u * iP d → u * iP d ≤ 1000 * iP d → (J u * rpt d < x ↔ u * iP d < c) := fun {x c u} ex bc u0 u1 => by
    rw [ex, show rpt d = J (iP d) from J_of _, J_mul, J_lt ⟨by omega, by omega⟩ (Bd_of bc (by decide))]
  have e1 := lo (show rX d i = J (iX d i) from J_of _) b1
  have e2 := lo (show rY d i = J (iY d i) from J_of _) b2
  have e3 := hi2 (u := (ks S 2).toInt) (show rX d i = J (iX d i) from J_of _) b1 m3 (by omega)
  have e4 := hi2 (u := (ks S 3).toInt) (show rY d i = J (iY d i) from J_of _) b2 m4 (by omega)
  have w : onB S d (nI i) = true ↔ ((0 ≤ iX d i ∧ iX d i ≤ (ks S 2).toInt * iP d) ∧ 0 ≤ iY d i ∧ iY d i ≤ (ks S 3).toInt * iP d) := by
    unfold onB
    rw [v.1, v.2.1, i32_J (ks S 2), i32_J (ks S 3)]
    simp only [Bool.and_eq_true, decide_eq_true_iff]
    rw [e1, e2, e3, e4]
    omega
  refine ⟨z.trans w.symm, fun q => ?_⟩
  have q2 := z.mp q
  omega
theorem rel_on {f : Nat → Int64} {S : Dk} (g : Rel f S) {d k : Nat} (hd : d < kn S) (hk : k < rn (kdr S d)) : onP f d k = onB S (kdr S d) (nI k) := by
  have b := g.b d hd
  have z := (on_eq ((g.d d hd).2 k hk) g.h.2.1.2.2.1 g.h.2.1.2.2.2.1 g.r.2.1.2.2.1 g.r.2.1.2.2.2.1 b.1.1 b.1.2 ((b.2.2.2 k hk).1.w (by decide)) ((b.2.2.2 k hk).2.w (by decide)) hk (g.n20 d hd)).1
  cases h1 : onP f d k with
  | true => exact (z.mp h1).symm
  | false =>
    cases h2 : onB S (kdr S d) (nI k) with
    | false => rfl
    | true => rw [z.mpr h2] at h1; exact absurd h1 (by decide)
theorem rel_ob {f : Nat → Int64} {S : Dk} (g : Rel f S) {d : Nat} (hd : d < kn S) : ∀ k, k ≤ rn (kdr S d) → obC f d k = nI (offB S (kdr S d) k)
  | 0, _ => rfl
  | k + 1, h => by
    have ih := rel_ob g hd k (by omega)
    unfold obC offB
    rw [ih, rel_on g hd (show k < _ by omega), ← nI_add]
    congr 1
    cases onB S (kdr S d) (nI k) <;> rfl
theorem rel_mlN {f : Nat → Int64} {S : Dk} (g : Rel f S) {d : Nat} (hd : d < kn S) : ∀ k, k ≤ rn (kdr S d) → mlN f d k = (nI (cntW (kdr S d) k), sumW (kdr S d) k, maxW (kdr S d) k)
  | 0, _ => rfl
  | k + 1, h => by
    have ih := rel_mlN g hd k (by omega)
    have p := (g.d d hd).2 k (by omega)
    have v := vX_n (d := kdr S d) (i := k) (by omega) (g.n20 d hd)
    have e5 : (f (ceC d k + 5)).toInt32 = vW (kdr S d) (nI k) := by
      rw [p.2.2.1]; unfold vW; rw [v.2.2]
      by_cases q : rl (kdr S d) k < 0
      · rw [if_pos q, if_pos q]; rfl
      · rw [if_neg q, if_neg q, i64_32]
    have ep : 0 < rl (kdr S d) k ↔ 0 < vW (kdr S d) (nI k) := by
      unfold vW; rw [v.2.2]
      by_cases q : rl (kdr S d) k < 0
      · rw [if_pos q]
        constructor
        · intro z; rw [Int32.lt_iff_toInt_lt] at z q; omega
        · intro z; exact absurd z (by decide)
      · rw [if_neg q]
    have e6 : (f (ceC d k + 6)).toInt32 = (if 0 < vW (kdr S d) (nI k) then vLen (kdr S d) (nI k) else 0) := by
      rw [p.2.2.2]
      by_cases q : 0 < rl (kdr S d) k
      · rw [if_pos q, if_pos (ep.mp q), i64_32]
      · rw [if_neg q, if_neg (fun z => q (ep.mpr z))]; rfl
    unfold mlN cntW sumW maxW
    rw [ih, e5, e6]
    by_cases q : 0 < vW (kdr S d) (nI k)
    · rw [if_pos q, if_pos q, if_pos q, if_neg (i32_not_le.mpr q)]
      refine Prod.ext ?_ (Prod.ext rfl ?_)
      · exact nI_1 _
      · show (if vW (kdr S d) (nI k) ≤ maxW (kdr S d) k then _ else _) = (if maxW (kdr S d) k < vW (kdr S d) (nI k) then _ else _)
        by_cases t : maxW (kdr S d) k < vW (kdr S d) (nI k)
        · rw [if_pos t, if_neg (i32_not_le.mpr t)]
        · rw [if_neg t, if_pos (i32_not_lt.mp t)]
    · rw [if_neg q, if_neg q, if_neg q, if_pos (i32_not_lt.mp q)]
      refine Prod.ext ?_ (Prod.ext ?_ ?_)
      · exact Int32.add_zero _
      · exact Int32.add_zero _
      · show (if vW (kdr S d) (nI k) ≤ maxW (kdr S d) k then _ else _) = (if maxW (kdr S d) k < vW (kdr S d) (nI k) then _ else _)
        by_cases t : maxW (kdr S d) k < vW (kdr S d) (nI k)
        · rw [if_pos t, if_neg (i32_not_le.mpr t)]
        · rw [if_neg t, if_pos (i32_not_lt.mp t)]
theorem rel_r32 {f : Nat → Int64} {S : Dk} (g : Rel f S) {d : Nat} (hd : d < kn S) : mRF f d = cR32 (kdr S d) ∧ NiceF (mRF f d) ∧ ¬ lowL (rsc (kdr S d)) (rpt (kdr S d)) 1 ≤ 0 := by
  have b := g.b d hd
  have p := (g.d d hd).1.2.2.1
  have l := low_of (x := rsc (kdr S d)) (p := rpt (kdr S d)) (show Ab (iS (kdr S d)) _ from ⟨by omega, by omega⟩) b.1.1 (show iP (kdr S d) ≤ _ by omega)
  have l1 := LN_pos (n := iS (kdr S d)) b.1.1 b.2.1.1
  have l3 := LN_le (n := iS (kdr S d)) b.1.1 (by omega)
  have l5 := LD_le (n := iS (kdr S d)) b.1.1
  have l6 := LD_pos (n := iS (kdr S d)) b.1.1
  refine ⟨?_, ?_, ?_⟩
  · unfold mRF cR32
    rw [p.1, p.2, l.1, l.2]
  · unfold mRF
    rw [p.1, p.2, J_nn (show 0 ≤ LN _ _ by omega), J_nn (show 0 ≤ LD _ _ by omega)]
    exact fq_div (by omega) (by omega) (by omega) (by omega)
  · rw [l.2]
    intro z
    have z2 : LD (iS (kdr S d)) (iP (kdr S d)) ≤ 0 := (J_le (b := 0) (Bd_D b.1.1 ⟨by omega, by omega⟩) (by decide)).mp z
    omega
theorem cDr_0 {S : Dk} {i : Int32} {d : Dr} : cDr S i d (nI 0) = nI (rn d) := by
  unfold cDr
  exact if_pos rfl
theorem cDr_1 {S : Dk} {i : Int32} {d : Dr} : cDr S i d (nI 1) = (if ¬ rpa d = -1 then rpa d else -2000000004) := by
  unfold cDr
  rw [if_neg (show ¬ nI 1 = (0 : Int32) from cn_ne (b := 0) (by decide) (by decide) (by decide))]
  exact if_pos rfl
theorem cDr_2 {S : Dk} {i : Int32} {d : Dr} : cDr S i d (nI 2) = orgF S 6 i := by
  unfold cDr
  rw [if_neg (show ¬ nI 2 = (0 : Int32) from cn_ne (b := 0) (by decide) (by decide) (by decide)), if_neg (show ¬ nI 2 = (1 : Int32) from cn_ne (b := 1) (by decide) (by decide) (by decide))]
  exact if_pos rfl
theorem cDr_3 {S : Dk} {i : Int32} {d : Dr} : cDr S i d (nI 3) = stpF S 6 0 i := by
  unfold cDr
  rw [if_neg (show ¬ nI 3 = (0 : Int32) from cn_ne (b := 0) (by decide) (by decide) (by decide)), if_neg (show ¬ nI 3 = (1 : Int32) from cn_ne (b := 1) (by decide) (by decide) (by decide)), if_neg (show ¬ nI 3 = (2 : Int32) from cn_ne (b := 2) (by decide) (by decide) (by decide))]
  exact if_pos rfl
theorem cDr_4 {S : Dk} {i : Int32} {d : Dr} : cDr S i d (nI 4) = rsx d := by
  unfold cDr
  rw [if_neg (show ¬ nI 4 = (0 : Int32) from cn_ne (b := 0) (by decide) (by decide) (by decide)), if_neg (show ¬ nI 4 = (1 : Int32) from cn_ne (b := 1) (by decide) (by decide) (by decide)), if_neg (show ¬ nI 4 = (2 : Int32) from cn_ne (b := 2) (by decide) (by decide) (by decide)), if_neg (show ¬ nI 4 = (3 : Int32) from cn_ne (b := 3) (by decide) (by decide) (by decide))]
  exact if_pos rfl
theorem cDr_5 {S : Dk} {i : Int32} {d : Dr} : cDr S i d (nI 5) = rsy d := by
  unfold cDr
  rw [if_neg (show ¬ nI 5 = (0 : Int32) from cn_ne (b := 0) (by decide) (by decide) (by decide)), if_neg (show ¬ nI 5 = (1 : Int32) from cn_ne (b := 1) (by decide) (by decide) (by decide)), if_neg (show ¬ nI 5 = (2 : Int32) from cn_ne (b := 2) (by decide) (by decide) (by decide)), if_neg (show ¬ nI 5 = (3 : Int32) from cn_ne (b := 3) (by decide) (by decide) (by decide)), if_neg (show ¬ nI 5 = (4 : Int32) from cn_ne (b := 4) (by decide) (by decide) (by decide))]
  exact if_pos rfl
theorem cDr_6 {S : Dk} {i : Int32} {d : Dr} : cDr S i d (nI 6) = nI (cntW d (rn d)) := by
  unfold cDr
  rw [if_neg (show ¬ nI 6 = (0 : Int32) from cn_ne (b := 0) (by decide) (by decide) (by decide)), if_neg (show ¬ nI 6 = (1 : Int32) from cn_ne (b := 1) (by decide) (by decide) (by decide)), if_neg (show ¬ nI 6 = (2 : Int32) from cn_ne (b := 2) (by decide) (by decide) (by decide)), if_neg (show ¬ nI 6 = (3 : Int32) from cn_ne (b := 3) (by decide) (by decide) (by decide)), if_neg (show ¬ nI 6 = (4 : Int32) from cn_ne (b := 4) (by decide) (by decide) (by decide)), if_neg (show ¬ nI 6 = (5 : Int32) from cn_ne (b := 5) (by decide) (by decide) (by decide))]
  exact if_pos rfl
theorem cDr_7 {S : Dk} {i : Int32} {d : Dr} : cDr S i d (nI 7) = sumW d (rn d) := by
  unfold cDr
  rw [if_neg (show ¬ nI 7 = (0 : Int32) from cn_ne (b := 0) (by decide) (by decide) (by decide)), if_neg (show ¬ nI 7 = (1 : Int32) from cn_ne (b := 1) (by decide) (by decide) (by decide)), if_neg (show ¬ nI 7 = (2 : Int32) from cn_ne (b := 2) (by decide) (by decide) (by decide)), if_neg (show ¬ nI 7 = (3 : Int32) from cn_ne (b := 3) (by decide) (by decide) (by decide)), if_neg (show ¬ nI 7 = (4 : Int32) from cn_ne (b := 4) (by decide) (by decide) (by decide)), if_neg (show ¬ nI 7 = (5 : Int32) from cn_ne (b := 5) (by decide) (by decide) (by decide)), if_neg (show ¬ nI 7 = (6 : Int32) from cn_ne (b := 6) (by decide) (by decide) (by decide))]
  exact if_pos rfl
theorem cDr_8 {S : Dk} {i : Int32} {d : Dr} : cDr S i d (nI 8) = maxW d (rn d) := by
  unfold cDr
  rw [if_neg (show ¬ nI 8 = (0 : Int32) from cn_ne (b := 0) (by decide) (by decide) (by decide)), if_neg (show ¬ nI 8 = (1 : Int32) from cn_ne (b := 1) (by decide) (by decide) (by decide)), if_neg (show ¬ nI 8 = (2 : Int32) from cn_ne (b := 2) (by decide) (by decide) (by decide)), if_neg (show ¬ nI 8 = (3 : Int32) from cn_ne (b := 3) (by decide) (by decide) (by decide)), if_neg (show ¬ nI 8 = (4 : Int32) from cn_ne (b := 4) (by decide) (by decide) (by decide)), if_neg (show ¬ nI 8 = (5 : Int32) from cn_ne (b := 5) (by decide) (by decide) (by decide)), if_neg (show ¬ nI 8 = (6 : Int32) from cn_ne (b := 6) (by decide) (by decide) (by decide)), if_neg (show ¬ nI 8 = (7 : Int32) from cn_ne (b := 7) (by decide) (by decide) (by decide))]
  exact if_pos rfl
theorem cDr_9 {S : Dk} {i : Int32} {d : Dr} : cDr S i d (nI 9) = nI (offB S d (rn d)) := by
  unfold cDr
  rw [if_neg (show ¬ nI 9 = (0 : Int32) from cn_ne (b := 0) (by decide) (by decide) (by decide)), if_neg (show ¬ nI 9 = (1 : Int32) from cn_ne (b := 1) (by decide) (by decide) (by decide)), if_neg (show ¬ nI 9 = (2 : Int32) from cn_ne (b := 2) (by decide) (by decide) (by decide)), if_neg (show ¬ nI 9 = (3 : Int32) from cn_ne (b := 3) (by decide) (by decide) (by decide)), if_neg (show ¬ nI 9 = (4 : Int32) from cn_ne (b := 4) (by decide) (by decide) (by decide)), if_neg (show ¬ nI 9 = (5 : Int32) from cn_ne (b := 5) (by decide) (by decide) (by decide)), if_neg (show ¬ nI 9 = (6 : Int32) from cn_ne (b := 6) (by decide) (by decide) (by decide)), if_neg (show ¬ nI 9 = (7 : Int32) from cn_ne (b := 7) (by decide) (by decide) (by decide)), if_neg (show ¬ nI 9 = (8 : Int32) from cn_ne (b := 8) (by decide) (by decide) (by decide))]
  exact if_pos rfl
theorem cDr_10 {S : Dk} {i : Int32} {d : Dr} : cDr S i d (nI 10) = (cR32 d).toInt32 := by
  unfold cDr
  rw [if_neg (show ¬ nI 10 = (0 : Int32) from cn_ne (b := 0) (by decide) (by decide) (by decide)), if_neg (show ¬ nI 10 = (1 : Int32) from cn_ne (b := 1) (by decide) (by decide) (by decide)), if_neg (show ¬ nI 10 = (2 : Int32) from cn_ne (b := 2) (by decide) (by decide) (by decide)), if_neg (show ¬ nI 10 = (3 : Int32) from cn_ne (b := 3) (by decide) (by decide) (by decide)), if_neg (show ¬ nI 10 = (4 : Int32) from cn_ne (b := 4) (by decide) (by decide) (by decide)), if_neg (show ¬ nI 10 = (5 : Int32) from cn_ne (b := 5) (by decide) (by decide) (by decide)), if_neg (show ¬ nI 10 = (6 : Int32) from cn_ne (b := 6) (by decide) (by decide) (by decide)), if_neg (show ¬ nI 10 = (7 : Int32) from cn_ne (b := 7) (by decide) (by decide) (by decide)), if_neg (show ¬ nI 10 = (8 : Int32) from cn_ne (b := 8) (by decide) (by decide) (by decide)), if_neg (show ¬ nI 10 = (9 : Int32) from cn_ne (b := 9) (by decide) (by decide) (by decide))]
  exact if_pos rfl
theorem cDr_11 {S : Dk} {i : Int32} {d : Dr} : cDr S i d (nI 11) = FP.f2i (FP.fmul (cR32 d) 1092616192) := by
  unfold cDr
  rw [if_neg (show ¬ nI 11 = (0 : Int32) from cn_ne (b := 0) (by decide) (by decide) (by decide)), if_neg (show ¬ nI 11 = (1 : Int32) from cn_ne (b := 1) (by decide) (by decide) (by decide)), if_neg (show ¬ nI 11 = (2 : Int32) from cn_ne (b := 2) (by decide) (by decide) (by decide)), if_neg (show ¬ nI 11 = (3 : Int32) from cn_ne (b := 3) (by decide) (by decide) (by decide)), if_neg (show ¬ nI 11 = (4 : Int32) from cn_ne (b := 4) (by decide) (by decide) (by decide)), if_neg (show ¬ nI 11 = (5 : Int32) from cn_ne (b := 5) (by decide) (by decide) (by decide)), if_neg (show ¬ nI 11 = (6 : Int32) from cn_ne (b := 6) (by decide) (by decide) (by decide)), if_neg (show ¬ nI 11 = (7 : Int32) from cn_ne (b := 7) (by decide) (by decide) (by decide)), if_neg (show ¬ nI 11 = (8 : Int32) from cn_ne (b := 8) (by decide) (by decide) (by decide)), if_neg (show ¬ nI 11 = (9 : Int32) from cn_ne (b := 9) (by decide) (by decide) (by decide)), if_neg (show ¬ nI 11 = (10 : Int32) from cn_ne (b := 10) (by decide) (by decide) (by decide))]
  exact if_pos rfl
/-! point -/
theorem rel_pcp {f : Nat → Int64} {S : Dk} (g : Rel f S) (num : Int32) : ∀ k, k ≤ kn S → pcp f num k = hcp S num k
  | 0, _ => rfl
  | k + 1, h => by
    have ih := rel_pcp g num k (by omega)
    have ep : (f (hdC k 1)).toInt32 = rpa (kdr S k) := by rw [(g.d k (by omega)).1.2.1, i64_32]
    unfold pcp hcp
    rw [ih, ep]
theorem hcp_no {S : Dk} {num : Int32} : ∀ k, ¬ hcp S num k = true → ∀ j, j < k → ¬ rpa (kdr S j) = num := fun k h j hj e => h (hcp_mono hj e)
theorem par_m1 {f : Nat → Int64} {S : Dk} (g : Rel f S) {d : Nat} (hd : d < kn S) : f (hdC d 1) = -1 ↔ rpa (kdr S d) = -1 := by
  rw [(g.d d hd).1.2.1]
  constructor
  · intro z
    have z2 := congrArg Int64.toInt32 z
    rw [i64_32] at z2; exact z2
  · intro z; rw [z]; rfl
theorem adP_c {f : Nat → Int64} {d k : Nat} {x y : Int32} {w : Int64} : adP f d k x y w (ceC d k + 0) = x.toInt64 ∧ adP f d k x y w (ceC d k + 1) = 1 ∧ adP f d k x y w (ceC d k + 2) = y.toInt64 ∧ adP f d k x y w (ceC d k + 3) = 1 ∧ adP f d k x y w (ceC d k + 4) = w ∧ adP f d k x y w (ceC d k + 5) = w := by
  refine ⟨?_, ?_, ?_, ?_, ?_, ?_⟩ <;> simp [adP, va_up]
theorem adP_o {f : Nat → Int64} {d k c : Nat} {x y : Int32} {w : Int64} (h : c < ceC d k ∨ ceC d k + 5 < c) : adP f d k x y w c = f c := by
  unfold adP
  rw [va_up_ne _ _ (by omega), va_up_ne _ _ (by omega), va_up_ne _ _ (by omega), va_up_ne _ _ (by omega), va_up_ne _ _ (by omega), va_up_ne _ _ (by omega)]
theorem adF_o {f : Nat → Int64} {d k c : Nat} {x y : Int32} {b : Bool} (h : c < ceC d k ∨ ceC d k + 6 < c) (h0 : c ≠ hdC d 0) : adF f d k x y b c = f c := by
  unfold adF
  rw [va_up_ne _ _ h0]
  unfold adQ
  rw [va_up_ne _ _ (by omega), adP_o (by omega)]
theorem adF_c {f : Nat → Int64} {d k : Nat} {x y : Int32} {b : Bool} : (∀ j, j ≤ 5 → adF f d k x y b (ceC d k + j) = adP f d k x y (if b then 1 else 0) (ceC d k + j)) ∧ adF f d k x y b (ceC d k + 6) = (if b then (leN (adP f d k x y 1) d k / leD (adP f d k x y 1) d k).toInt32.toInt64 else 0) := by
  refine ⟨fun j hj => ?_, ?_⟩
  · unfold adF
    rw [va_up_ne _ _ (by unfold ceC hdC; omega)]
    unfold adQ
    rw [va_up_ne _ _ (by omega)]
  · unfold adF
    rw [va_up_ne _ _ (by unfold ceC hdC; omega)]
    unfold adQ
    rw [va_up_self]
/-- a point added to an original -/
abbrev lnV (q : Int32) : Int32 := if q = 1 then 1 else -1
theorem dAdd_o {d : Dr} {x y : Int64} {l : Int32} {i : Nat} (hi : i < rn d) : iX (dAdd d x y l) i = iX d i ∧ iY (dAdd d x y l) i = iY d i ∧ rl (dAdd d x y l) i = rl d i := by
  refine ⟨?_, ?_, ?_⟩
  · show (va_up (rX d) (rn d) x i).toInt = _; rw [va_up_ne _ _ (by omega)]
  · show (va_up (rY d) (rn d) y i).toInt = _; rw [va_up_ne _ _ (by omega)]
  · show va_up (rl d) (rn d) _ i = _; rw [va_up_ne _ _ (by omega)]
theorem dAdd_n {d : Dr} {x y : Int64} {l : Int32} : iX (dAdd d x y l) (rn d) = x.toInt ∧ iY (dAdd d x y l) (rn d) = y.toInt ∧ rl (dAdd d x y l) (rn d) = (if rn d = 0 then -1 else l) := by
  refine ⟨?_, ?_, ?_⟩
  · show (va_up (rX d) (rn d) x (rn d)).toInt = _; rw [va_up_self]
  · show (va_up (rY d) (rn d) y (rn d)).toInt = _; rw [va_up_self]
  · show va_up (rl d) (rn d) _ (rn d) = _; rw [va_up_self]
theorem vLen_add {d : Dr} {x y : Int64} {l : Int32} {i : Nat} (hi : i < rn d) (h20 : rn d < 20) : vLen (dAdd d x y l) (nI i) = vLen d (nI i) := by
  have a := vX_n (d := dAdd d x y l) (i := i) (show i < rn d + 1 by omega) (show rn d + 1 ≤ 20 by omega)
  have b := vX_n (d := d) hi (by omega)
  have o : rX (dAdd d x y l) i = rX d i ∧ rY (dAdd d x y l) i = rY d i := ⟨va_up_ne _ _ (by omega), va_up_ne _ _ (by omega)⟩
  have pr : vX (dAdd d x y l) (nI i - 1) = vX d (nI i - 1) ∧ vY (dAdd d x y l) (nI i - 1) = vY d (nI i - 1) := by
    rcases Nat.eq_zero_or_pos i with z | z
    · subst z
      have n1 : ∀ u : Nat, ¬ (¬ (nI 0 - 1) < 0 ∧ ¬ nI u ≤ (nI 0 - 1)) := fun u q => q.1 (by decide)
      unfold vX vY
      rw [if_neg (n1 _), if_neg (n1 _), if_neg (n1 _), if_neg (n1 _)]
      exact ⟨rfl, rfl⟩
    · have e : nI i - 1 = nI (i - 1) := pk_sub (a := i) (b := 1) z
      have a2 := vX_n (d := dAdd d x y l) (i := i - 1) (show i - 1 < rn d + 1 by omega) (show rn d + 1 ≤ 20 by omega)
      have b2 := vX_n (d := d) (i := i - 1) (by omega) (by omega)
      rw [e, a2.1, a2.2.1, b2.1, b2.2.1]
      exact ⟨va_up_ne _ _ (by omega), va_up_ne _ _ (by omega)⟩
  unfold vLen
  rw [pr.1, pr.2, a.1, a.2.1, b.1, b.2.1, o.1, o.2]
  rfl
theorem add_ok {f : Nat → Int64} {j : Nat} {d : Dr} {x y q : Int32} (h : PD f j d) (c : CIv d 0) (li : LIv d) (h20 : rn d < 20) (rx : Rg x 0 1000) (ry : Rg y 0 1000) (hj : j ≤ 5) : (1 ≤ rn d → LnOK (adP f j (rn d) x y 1) j (rn d)) ∧ PD (adF f j (rn d) x y (decide (q = 1 ∧ 0 < rn d))) j (dAdd d x.toInt64 y.toInt64 (lnV q)) ∧ LIv (dAdd d x.toInt64 y.toInt64 (lnV q)) ∧ CIv (dAdd d x.toInt64 y.toInt64 (lnV q)) 0 := by
  have p1 : iP d = 1 := by have := c.1; have p : pw 0 = 1 := rfl; omega
  have tx : x.toInt64.toInt = x.toInt := Int32.toInt_toInt64 x
  have ty : y.toInt64.toInt = y.toInt := Int32.toInt_toInt64 y
  have b0 : bn 0 = 1000 := rfl
  have dn := dAdd_n (d := d) (x := x.toInt64) (y := y.toInt64) (l := lnV q)
  have iPd : iP (dAdd d x.toInt64 y.toInt64 (lnV q)) = 1 := p1
  -- the new point's cells while its length is reckoned
  have cells : ∀ w : Int64, (adP f j (rn d) x y w (ceC j (rn d) + 0) = J (LN (iX (dAdd d x.toInt64 y.toInt64 (lnV q)) (rn d)) 1) ∧ adP f j (rn d) x y w (ceC j (rn d) + 1) = J (LD (iX (dAdd d x.toInt64 y.toInt64 (lnV q)) (rn d)) 1) ∧ adP f j (rn d) x y w (ceC j (rn d) + 2) = J (LN (iY (dAdd d x.toInt64 y.toInt64 (lnV q)) (rn d)) 1) ∧ adP f j (rn d) x y w (ceC j (rn d) + 3) = J (LD (iY (dAdd d x.toInt64 y.toInt64 (lnV q)) (rn d)) 1)) := fun w => by
    obtain ⟨c0, c1, c2, c3, -, -⟩ := adP_c (f := f) (d := j) (k := rn d) (x := x) (y := y) (w := w)
    rw [c0, c1, c2, c3, dn.1, dn.2.1, (LN_1 _).1, (LN_1 _).2, (LN_1 _).1, (LN_1 _).2, tx, ty]
    exact ⟨i32_J x, rfl, i32_J y, rfl⟩
  have len : 1 ≤ rn d → LnOK (adP f j (rn d) x y 1) j (rn d) ∧ leN (adP f j (rn d) x y 1) j (rn d) / leD (adP f j (rn d) x y 1) j (rn d) = J ((((iX (dAdd d x.toInt64 y.toInt64 (lnV q)) (rn d) - iX (dAdd d x.toInt64 y.toInt64 (lnV q)) (rn d - 1)).natAbs : Int) + ((iY (dAdd d x.toInt64 y.toInt64 (lnV q)) (rn d) - iY (dAdd d x.toInt64 y.toInt64 (lnV q)) (rn d - 1)).natAbs : Int)) / 1) := fun h1 => by
    have o := dAdd_o (d := d) (x := x.toInt64) (y := y.toInt64) (l := lnV q) (i := rn d - 1) (by omega)
    have pp := (h.2 (rn d - 1) (by omega)).1
    rw [p1] at pp
    have bb := c.2.2.2.1 (rn d - 1) (by omega)
    have k1 := cells 1
    rw [o.1, o.2.1]
    refine len_ok k1.1 k1.2.1 k1.2.2.1 k1.2.2.2 ?_ ?_ ?_ ?_ (by decide) (by decide) ?_ ?_ ?_ ?_
    · rw [adP_o (by unfold ceC; omega)]; exact pp.1
    · rw [adP_o (by unfold ceC; omega)]; exact pp.2.1
    · rw [adP_o (by unfold ceC; omega)]; exact pp.2.2.1
    · rw [adP_o (by unfold ceC; omega)]; exact pp.2.2.2
    · exact ⟨by omega, by omega⟩
    · rw [dn.1, tx]; exact ⟨by omega, by omega⟩
    · exact ⟨by omega, by omega⟩
    · rw [dn.2.1, ty]; exact ⟨by omega, by omega⟩
  refine ⟨fun h1 => (len h1).1, ⟨?_, ?_⟩, ⟨?_, ?_⟩, ?_⟩
  · refine ⟨adF_n h.1.1 hj h20, ?_⟩
    have oc : ∀ k, 1 ≤ k → k ≤ 9 → adF f j (rn d) x y (decide (q = 1 ∧ 0 < rn d)) (hdC j k) = f (hdC j k) := fun k h1 h9 => adF_o (by unfold hdC ceC; omega) (by unfold hdC; omega)
    rw [oc 1 (by decide) (by decide), oc 2 (by decide) (by decide), oc 3 (by decide) (by decide), oc 4 (by decide) (by decide), oc 5 (by decide) (by decide), oc 6 (by decide) (by decide), oc 7 (by decide) (by decide), oc 8 (by decide) (by decide), oc 9 (by decide) (by decide)]
    exact h.1.2
  · intro i hi
    have hi2 : i < rn d + 1 := hi
    obtain ⟨a1, a2⟩ := adF_c (f := f) (d := j) (k := rn d) (x := x) (y := y) (b := decide (q = 1 ∧ 0 < rn d))
    by_cases ei : i = rn d
    · subst ei
      have k1 := cells (if decide (q = 1 ∧ 0 < rn d) then 1 else 0)
      obtain ⟨-, -, -, -, c4, c5⟩ := adP_c (f := f) (d := j) (k := rn d) (x := x) (y := y) (w := (if decide (q = 1 ∧ 0 < rn d) then 1 else 0))
      have hy : (q = 1 ∧ 0 < rn d) → (if rn d = 0 then (-1 : Int32) else lnV q) = 1 := fun z => by rw [if_neg (show ¬ rn d = 0 by omega), show lnV q = 1 from if_pos z.1]
      have hn : ¬ (q = 1 ∧ 0 < rn d) → (if rn d = 0 then (-1 : Int32) else lnV q) = -1 := fun z => by
        by_cases z2 : rn d = 0
        · rw [if_pos z2]
        · rw [if_neg z2, show lnV q = -1 from if_neg (fun t => z ⟨t, by omega⟩)]
      have dy : (q = 1 ∧ 0 < rn d) → decide (q = 1 ∧ 0 < rn d) = true := fun z => decide_eq_true z
      have dz : ¬ (q = 1 ∧ 0 < rn d) → ¬ decide (q = 1 ∧ 0 < rn d) = true := fun z => by rw [decide_eq_false z]; decide
      refine ⟨?_, ?_, ?_, ?_⟩
      · rw [a1 0 (by decide), a1 1 (by decide), a1 2 (by decide), a1 3 (by decide), iPd]; exact k1
      · rw [a1 4 (by decide), c4, dn.2.2]
        by_cases z : q = 1 ∧ 0 < rn d
        · rw [if_pos (dy z), hy z, if_neg (show ¬ (1 : Int32) = -1 by decide)]
        · rw [if_neg (dz z), hn z, if_pos rfl]
      · rw [a1 5 (by decide), c5, dn.2.2]
        by_cases z : q = 1 ∧ 0 < rn d
        · rw [if_pos (dy z), hy z, if_neg (show ¬ (1 : Int32) < 0 by decide)]; rfl
        · rw [if_neg (dz z), hn z, if_pos (show (-1 : Int32) < 0 by decide)]
      · rw [a2, dn.2.2]
        by_cases z : q = 1 ∧ 0 < rn d
        · have vl := vLen_n (d := dAdd d x.toInt64 y.toInt64 (lnV q)) (i := rn d) (by omega) (show rn d < rn d + 1 by omega) (show rn d + 1 ≤ 20 by omega) (by rw [iPd]; decide) (by rw [iPd]; decide)
          have o := dAdd_o (d := d) (x := x.toInt64) (y := y.toInt64) (l := lnV q) (i := rn d - 1) (by omega)
          have bb := c.2.2.2.1 (rn d - 1) (by omega)
          have vl2 := vl (by rw [o.1]; exact ⟨by omega, by omega⟩) (by rw [dn.1, tx]; exact ⟨by omega, by omega⟩) (by rw [o.2.1]; exact ⟨by omega, by omega⟩) (by rw [dn.2.1, ty]; exact ⟨by omega, by omega⟩)
          rw [if_pos (dy z), hy z, if_pos (show (0 : Int32) < 1 by decide), vl2, iPd, (len (by omega)).2]
        · rw [if_neg (dz z), hn z, if_neg (show ¬ (0 : Int32) < -1 by decide)]
    · have hi3 : i < rn d := by omega
      have o := dAdd_o (d := d) (x := x.toInt64) (y := y.toInt64) (l := lnV q) hi3
      have pp : PP (adF f j (rn d) x y (decide (q = 1 ∧ 0 < rn d))) (ceC j i) d i := (h.2 i hi3).congr (fun k hk => adF_o (by unfold ceC; omega) (by unfold ceC hdC; omega))
      unfold PP at pp ⊢
      rw [o.1, o.2.1, o.2.2, vLen_add hi3 h20]
      exact pp
  · intro i hi
    have hi2 : i < rn d + 1 := hi
    by_cases ei : i = rn d
    · subst ei
      rw [dn.2.2]
      split
      · exact Or.inl rfl
      · unfold lnV
        split
        · exact Or.inr ⟨by decide, by decide⟩
        · exact Or.inl rfl
    · rw [(dAdd_o (d := d) (by omega)).2.2]
      exact li.1 i (by omega)
  · intro _
    show va_up (rl d) (rn d) _ 0 = -1
    by_cases z : rn d = 0
    · rw [z, va_up_self, if_pos rfl]
    · rw [va_up_ne _ _ (by omega)]
      exact li.2 (by omega)
  · refine ⟨c.1, c.2.1, c.2.2.1, fun i hi => ?_, show rn d + 1 ≤ 20 by omega, c.2.2.2.2.2.1, c.2.2.2.2.2.2⟩
    have hi2 : i < rn d + 1 := hi
    by_cases ei : i = rn d
    · subst ei
      rw [dn.1, dn.2.1, tx, ty, b0]
      exact ⟨⟨by omega, by omega⟩, by omega, by omega⟩
    · have o := dAdd_o (d := d) (x := x.toInt64) (y := y.toInt64) (l := lnV q) (i := i) (by omega)
      rw [o.1, o.2.1]
      exact c.2.2.2.1 i (by omega)
theorem rel_ptOK {f : Nat → Int64} {S : Dk} {x y : Int32} (g : Rel f S) : ∀ d, d < kn S → 1 ≤ npS S d → npS S d < 20 → okR x 0 1000 → okR y 0 1000 → f (hdC d 1) = -1 → LnOK (adP f d (npS S d) x y 1) d (npS S d) := fun d hd h1 h20 ex ey h => by
  have n6 := g.n6
  obtain ⟨c, -, -⟩ := org_is g hd ((par_m1 g hd).mp h)
  exact (add_ok (q := 1) (g.d d hd) c (g.l d hd) h20 (ok_rg ex rfl rfl) (ok_rg ey rfl rfl) (by omega)).1 h1
theorem rel_point {f : Nat → Int64} {S : Dk} {i x y q : Int32} (g : Rel f S) : (mPnt f (kn S) (npS S) i x y q).1 = (cPnt S i x y q).1 ∧ RelA (cPnt S i x y q).2 (mPnt f (kn S) (npS S) i x y q).2 := by
  have n6 := g.n6
  unfold mPnt cPnt
  by_cases e : inD S i ∧ okR x 0 1000 ∧ okR y 0 1000 ∧ okR q 0 1
  · rw [if_neg (show ¬ ¬ (inM (kn S) i ∧ okR x 0 1000 ∧ okR y 0 1000 ∧ okR q 0 1) from fun z => z e)]
    try rw [if_neg (show ¬ ¬ (inD S i ∧ okR x 0 1000 ∧ okR y 0 1000 ∧ okR q 0 1) from fun z => z e)]
    obtain ⟨d, hd, rfl, ec⟩ := inM_n (n := kn S) (by omega) e.1
    rw [ec, rel_pcp g _ _ (Nat.le_refl _)]
    by_cases e2 : ¬ rpa (kdr S d) = -1 ∨ hcp S (nI d) (kn S) = true
    · rw [if_pos e2, if_pos (by rcases e2 with z | z; exact Or.inl (fun t => z ((par_m1 g hd).mp t)); exact Or.inr z)]
      exact ⟨rfl, trivial⟩
    · have e3 : rpa (kdr S d) = -1 := Classical.byContradiction (fun z => e2 (Or.inl z))
      rw [if_neg e2, if_neg (show ¬ (¬ f (hdC d 1) = -1 ∨ hcp S (nI d) (kn S) = true) from fun z => e2 (by rcases z with z | z; exact Or.inl (fun t => z ((par_m1 g hd).mpr t)); exact Or.inr z))]
      have n20 := g.n20 d hd
      by_cases e4 : rn (kdr S d) = 20
      · rw [if_pos (show npS S d = 20 from e4), if_pos (by omega)]
        exact ⟨rfl, trivial⟩
      · rw [if_neg (show ¬ npS S d = 20 from e4), if_neg (by omega)]
        obtain ⟨c, -, -⟩ := org_is g hd e3
        obtain ⟨-, a1, a2, a3⟩ := add_ok (q := q) (g.d d hd) c (g.l d hd) (show rn (kdr S d) < 20 by omega) (ok_rg e.2.1 rfl rfl) (ok_rg e.2.2.1 rfl rfl) (by omega)
        refine ⟨rfl, g.upd hd (fun k hk => ?_) a1 a2 e3 e3 (hcp_no _ (fun z => e2 (Or.inr z))) (fun k hk ck => ?_)⟩
        · exact adF_o (show k < ceC d (rn (kdr S d)) ∨ ceC d (rn (kdr S d)) + 6 < k by unfold ceC; omega) (by unfold hdC; omega)
        · have b0 : bn 0 ≤ bn k := by
            have z := bn_le hk
            have : bn 0 = 1000 := rfl
            omega
          refine ⟨ck.1, ck.2.1, ck.2.2.1, fun i hi => ?_, a3.2.2.2.2⟩
          have z := a3.2.2.2.1 i hi
          exact ⟨z.1.w b0, z.2.w b0⟩
  · rw [if_pos (show ¬ (inM (kn S) i ∧ okR x 0 1000 ∧ okR y 0 1000 ∧ okR q 0 1) from e)]
    try rw [if_pos (show ¬ (inD S i ∧ okR x 0 1000 ∧ okR y 0 1000 ∧ okR q 0 1) from e)]
    exact ⟨rfl, trivial⟩

