/-! the reference: its page as a function -/
def sz (x : Int64) : Int64 := if x < 0 then -x else x
theorem rem_lt {p q : Int64} (h : ¬ q = 0) : (p - p / q * q).toInt.natAbs < q.toInt.natAbs := by
  have h0 : q.toInt ≠ 0 := fun z => h (Int64.toInt_inj.mp (by rw [z]; rfl))
  rw [Jvm.Kit.i64_rem]
  have h1 := Int.natAbs_tmod p.toInt q.toInt
  rw [h1]
  exact Nat.mod_lt _ (Int.natAbs_pos.mpr h0)
def euF (p q : Int64) : Int64 := if h : q = 0 then p else euF q (p - p / q * q)
termination_by q.toInt.natAbs
decreasing_by exact rem_lt h
theorem euF_0 (p : Int64) : euF p 0 = p := by rw [euF]; simp
theorem euF_s {p q : Int64} (h : ¬ q = 0) : euF p q = euF q (p - p / q * q) := by rw [euF]; simp [h]
def dvs (a b : Int64) : Int64 := euF (sz a) (sz b)
def rdN (n d : Int64) : Int64 := if dvs n d = 0 then 0 else n / dvs n d
def rdD (n d : Int64) : Int64 := if dvs n d = 0 then 1 else d / dvs n d
def plN (n d t n2 d2 : Int64) : Int64 := n * (d2 / dvs d d2) + t * n2 * (d / dvs d d2)
def plD (d d2 : Int64) : Int64 := d / dvs d d2 * d2
/-- the page: 915 longs -/
def PQ (V : gV) (M : Nat) (f : Nat → Int64) : Prop := ∀ j, j < 915 → V.2.1 (M + 1) j = f j
/-- page, top and low changed, nothing else -/
def Pg (V V' : gV) (M : Nat) (f' : Nat → Int64) : Prop := V'.1 = V.1 ∧ (∀ b, b ≠ M → b ≠ M + 1 → V'.2.1 b = V.2.1 b) ∧ V'.2.2 = V.2.2 ∧ PQ V' M f'
theorem Pg.rf {V : gV} {M : Nat} {f : Nat → Int64} (h : PQ V M f) : Pg V V M f := ⟨rfl, fun _ _ _ => rfl, rfl, h⟩
theorem Pg.trans {V V1 V2 : gV} {M : Nat} {f1 f2 : Nat → Int64} (h : Pg V V1 M f1) (h2 : Pg V1 V2 M f2) : Pg V V2 M f2 := ⟨h2.1.trans h.1, fun b x y => (h2.2.1 b x y).trans (h.2.1 b x y), h2.2.2.1.trans h.2.2.1, h2.2.2.2⟩
theorem Pg.off {V V' : gV} {M : Nat} {f : Nat → Int64} (h : Pg V V' M f) : Off V V' M (M + 2) := fun b hb => ⟨by rw [h.1], h.2.1 b (by omega) (by omega), by rw [h.2.2.1]⟩
/-- top and low -/
def tl (V : gV) (M : Nat) (x y : Int64) : gV := wL (wL V M 6 x) M 7 y
theorem tl6 {V : gV} {M : Nat} {x y : Int64} : (tl V M x y).2.1 M 6 = x := by simp [tl, wL, vp_updL]
theorem tl7 {V : gV} {M : Nat} {x y : Int64} : (tl V M x y).2.1 M 7 = y := by simp [tl, wL, vp_updL]
theorem tl_pg {V : gV} {M : Nat} {x y : Int64} {f : Nat → Int64} (h : PQ V M f) : Pg V (tl V M x y) M f := ⟨rfl, fun b hb _ => by simp [tl, wL, hb], rfl, fun j hj => by simp [tl, wL]; exact h j hj⟩
theorem wP_pg {V : gV} {M c : Nat} {x : Int64} {f : Nat → Int64} (h : PQ V M f) : Pg V (wL V (M + 1) c x) M (va_up f c x) := ⟨rfl, fun b _ hb => (wL_off b hb).2.1, rfl, fun j hj => by
  by_cases e : j = c
  · subst e; simp [wL, vp_updL, va_up]
  · simp only [wL, vp_updL, va_up, if_true, e, if_false]; exact h j hj⟩
theorem wP_tl {V : gV} {M c : Nat} {x : Int64} (k : Nat) : (wL V (M + 1) c x).2.1 M k = V.2.1 M k := by rw [(wL_off M (by omega)).2.1]
def hdC (d k : Nat) : Nat := 15 + 150 * d + k
def ceC (d p : Nat) : Nat := 25 + 150 * d + 7 * p
theorem n1k {a b : Nat} (ha : a < 4000) (hb : b < 4000) : nI a ≤ nI b ↔ a ≤ b := nI_leI (by omega) (by omega)
def sgf (f : Nat → Int64) (ax : Nat) : Int32 := if f 4 = 1 ∨ (f 4 = 2 ∧ ax = 0) then -1 else 1
def aimA (f : Nat → Int64) (ax : Nat) (n d : Int64) : Int64 := f (2 + ax) * d * f 1 + (sgf f ax).toInt64 * f 0 * (n - f (2 + ax) * d)
def aimB (f : Nat → Int64) (d : Int64) : Int64 := d * f 1
def folU (x y n d : Int64) : Int64 := rdN (plN x y (-1) n d) (plD y d)
def folV (x y n d : Int64) : Int64 := rdD (plN x y (-1) n d) (plD y d)
def folN (f : Nat → Int64) (x y n d : Int64) : Int64 := if f 5 * folV x y n d < folU x y n d then rdN (plN x y (-1) (f 5) 1) (plD y 1) else if f 5 * folV x y n d < -folU x y n d then rdN (plN x y 1 (f 5) 1) (plD y 1) else rdN n d
def folD (f : Nat → Int64) (x y n d : Int64) : Int64 := if f 5 * folV x y n d < folU x y n d then rdD (plN x y (-1) (f 5) 1) (plD y 1) else if f 5 * folV x y n d < -folU x y n d then rdD (plN x y 1 (f 5) 1) (plD y 1) else rdD n d
theorem tl_tl {V : gV} {M : Nat} {a b x y : Int64} : tl (tl V M a b) M x y = tl V M x y := by
  unfold tl wL
  simp only [Prod.mk.injEq, true_and]
  refine ⟨funext fun b' => ?_, trivial⟩
  by_cases e : b' = M
  · subst e
    simp only [if_true]
    funext j
    by_cases e7 : j = 7
    · subst e7; simp [vp_updL]
    · by_cases e6 : j = 6
      · subst e6; simp [vp_updL]
      · simp [vp_updL, e6, e7]
  · simp [e]
