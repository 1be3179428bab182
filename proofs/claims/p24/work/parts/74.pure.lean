/-- what the walks need of a page: how many drawings, how many points each has -/
def PWf (f : Nat → Int64) (n : Nat) (np : Nat → Nat) : Prop := f 14 = lN n ∧ n ≤ 6 ∧ ∀ d, d < n → f (hdC d 0) = lN (np d) ∧ np d ≤ 20
theorem prd_lt {n : Nat} (hn : n ≤ 100) (i : Int32) : nI n - 1 < i ↔ nI n ≤ i := by
  rw [Int32.lt_iff_toInt_lt, Int32.le_iff_toInt_le, nI_toInt (show n < 2 ^ 31 by omega)]
  have e : (nI n - 1).toInt = (n : Int) - 1 := by
    have := pk_sub_toInt (a := n) (b := 1) (by omega) (by decide)
    exact this
  rw [e]; omega
theorem hd_lt {d k : Nat} (hd : d ≤ 5) (hk : k < 150) : hdC d k < 915 := by unfold hdC; omega
theorem ce_lt {d k j : Nat} (hd : d ≤ 5) (hk : k < 20) (hj : j < 7) : ceC d k + j < 915 := by unfold ceC; omega
def pcp (f : Nat → Int64) (num : Int32) : Nat → Bool
  | 0 => false
  | j + 1 => pcp f num j || decide ((f (hdC j 1)).toInt32 = num)
def onP (f : Nat → Int64) (d k : Nat) : Bool := (decide (¬ f (ceC d k) < 0) && decide (¬ f 6 * f (ceC d k + 1) < f (ceC d k))) && (decide (¬ f (ceC d k + 2) < 0) && decide (¬ f 7 * f (ceC d k + 3) < f (ceC d k + 2)))
def lqN (f : Nat → Int64) (d k j : Nat) : Int64 := rdN (plN (f (ceC d k + j)) (f (ceC d k + (j + 1))) (-1) (f (ceC d (k - 1) + j)) (f (ceC d (k - 1) + (j + 1)))) (plD (f (ceC d k + (j + 1))) (f (ceC d (k - 1) + (j + 1))))
def lqD (f : Nat → Int64) (d k j : Nat) : Int64 := rdD (plN (f (ceC d k + j)) (f (ceC d k + (j + 1))) (-1) (f (ceC d (k - 1) + j)) (f (ceC d (k - 1) + (j + 1)))) (plD (f (ceC d k + (j + 1))) (f (ceC d (k - 1) + (j + 1))))
def leN (f : Nat → Int64) (d k : Nat) : Int64 := rdN (plN (sz (lqN f d k 0)) (lqD f d k 0) 1 (sz (lqN f d k 2)) (lqD f d k 2)) (plD (lqD f d k 0) (lqD f d k 2))
def leD (f : Nat → Int64) (d k : Nat) : Int64 := rdD (plN (sz (lqN f d k 0)) (lqD f d k 0) 1 (sz (lqN f d k 2)) (lqD f d k 2)) (plD (lqD f d k 0) (lqD f d k 2))
/-! rows of the page -/
theorem tl_all {V V1 : gV} {M : Nat} {x y : Int64} {f : Nat → Int64} (h : V1 = tl V M x y) (hf : PQ V M f) : Pg V V1 M f ∧ V1.2.1 M 6 = x ∧ V1.2.1 M 7 = y := by
  subst h; exact ⟨tl_pg hf, tl6, tl7⟩
theorem put_all {V V1 : gV} {M k : Nat} {x y : Int64} {f : Nat → Int64} (h : V1 = wL (wL V (M + 1) k x) (M + 1) (k + 1) y) (hf : PQ V M f) : Pg V V1 M (va_up (va_up f k x) (k + 1) y) := by
  subst h; exact (wP_pg hf).trans (wP_pg (wP_pg hf).2.2.2)
/-- 915 longs brought over -/
def brV (V : gV) (x y i j n : Nat) : gV := (V.1, fun b c => if b = y then (if j ≤ c ∧ c < j + n then V.2.1 x (i + (c - j)) else V.2.1 b c) else V.2.1 b c, V.2.2)
theorem brV_0 {V : gV} {x y i j : Nat} : brV V x y i j 0 = V := by
  unfold brV
  refine Prod.ext rfl (Prod.ext (funext fun b => funext fun c => ?_) rfl)
  simp only
  split
  · rw [if_neg (by omega)]
  · rfl
theorem brV_x {V : gV} {x y i j n k : Nat} (h : x ≠ y) : (brV V x y i j n).2.1 x k = V.2.1 x k := by simp [brV, h]
theorem brV_s {V : gV} {x y i j n : Nat} : wL (brV V x y i j n) y (j + n) (V.2.1 x (i + n)) = brV V x y i j (n + 1) := by
  unfold brV wL
  refine Prod.ext rfl (Prod.ext (funext fun b => ?_) rfl)
  simp only
  by_cases e : b = y
  · subst e
    simp only [if_true]
    funext c
    by_cases ec : c = j + n
    · subst ec; rw [pk_uLs, if_pos (by omega), show j + n - j = n by omega]
    · rw [pk_uLn ec]
      by_cases z : j ≤ c ∧ c < j + n
      · rw [if_pos z, if_pos (by omega)]
      · rw [if_neg z, if_neg (by omega)]
  · simp only [if_neg e]
theorem brV_off {V : gV} {x y i j n b : Nat} (h : b ≠ y) : (brV V x y i j n).2.1 b = V.2.1 b := by simp [brV, h]
theorem brV_y {V : gV} {x y i j n q : Nat} (h : q < n) : (brV V x y i j n).2.1 y (j + q) = V.2.1 x (i + q) := by
  show (if y = y then (if j ≤ j + q ∧ j + q < j + n then V.2.1 x (i + (j + q - j)) else V.2.1 y (j + q)) else _) = _
  rw [if_pos rfl, if_pos (by omega), show j + q - j = q by omega]
theorem brV_o {V : gV} {x y i j n q : Nat} (h : q < j ∨ j + n ≤ q) : (brV V x y i j n).2.1 y q = V.2.1 y q := by
  show (if y = y then (if j ≤ q ∧ q < j + n then V.2.1 x (i + (q - j)) else V.2.1 y q) else _) = _
  rw [if_pos rfl, if_neg (by omega)]
/-- what changes of the reference: its pages and their number -/
def KpM (V V1 : gV) (M : Nat) : Prop := (∀ b, b ≠ M → V1.1 b = V.1 b) ∧ (∀ j, j ≠ 3 → V1.1 M j = V.1 M j) ∧ (∀ b, (b < M ∨ M + 4 ≤ b) → V1.2.1 b = V.2.1 b) ∧ V1.2.2 = V.2.2
theorem KpM.rf {V : gV} {M : Nat} : KpM V V M := ⟨fun _ _ => rfl, fun _ _ => rfl, fun _ _ => rfl, rfl⟩
theorem KpM.trans {V V1 V2 : gV} {M : Nat} (h : KpM V V1 M) (h2 : KpM V1 V2 M) : KpM V V2 M := ⟨fun b x => (h2.1 b x).trans (h.1 b x), fun b x => (h2.2.1 b x).trans (h.2.1 b x), fun b x => (h2.2.2.1 b x).trans (h.2.2.1 b x), h2.2.2.2.trans h.2.2.2⟩
theorem Pg.kp {V V1 : gV} {M : Nat} {f : Nat → Int64} (h : Pg V V1 M f) : KpM V V1 M := ⟨fun b _ => by rw [h.1], fun j _ => by rw [h.1], fun b hb => h.2.1 b (by omega) (by omega), h.2.2.1⟩
/-- the pages of the past -/
def HQ (V : gV) (M h : Nat) (H : Nat → Nat → Int64) : Prop := V.1 M 3 = nI h ∧ h ≤ 4 ∧ ∀ k, k < h → ∀ j, j < 915 → V.2.1 (M + 3) (915 * k + j) = H k j
theorem HQ.pg {V V1 : gV} {M h : Nat} {H : Nat → Nat → Int64} {f : Nat → Int64} (g : HQ V M h H) (z : Pg V V1 M f) : HQ V1 M h H := ⟨by rw [z.1]; exact g.1, g.2.1, fun k hk j hj => by rw [z.2.1 (M + 3) (by omega) (by omega)]; exact g.2.2 k hk j hj⟩
def keepH (f : Nat → Int64) (h : Nat) (H : Nat → Nat → Int64) : Nat → Nat → Int64 := if h < 4 then va_up H h f else va_up (fun k => H (k + 1)) 3 f
def shV (V : gV) (M n : Nat) : gV := (V.1, fun b c => if b = M + 3 then (if c < n then V.2.1 b (c + 915) else V.2.1 b c) else V.2.1 b c, V.2.2)
theorem shV_0 {V : gV} {M : Nat} : shV V M 0 = V := by
  unfold shV
  refine Prod.ext rfl (Prod.ext (funext fun b => funext fun c => ?_) rfl)
  simp
theorem shV_r {V : gV} {M n : Nat} : (shV V M n).2.1 (M + 3) (n + 915) = V.2.1 (M + 3) (n + 915) := by simp only [shV, if_true]; rw [if_neg (by omega)]
theorem shV_s {V : gV} {M n : Nat} : wL (shV V M n) (M + 3) n (V.2.1 (M + 3) (n + 915)) = shV V M (n + 1) := by
  unfold shV wL
  refine Prod.ext rfl (Prod.ext (funext fun b => ?_) rfl)
  simp only
  by_cases e : b = M + 3
  · subst e
    simp only [if_true]
    funext c
    by_cases ec : c = n
    · subst ec; rw [pk_uLs, if_pos (by omega)]
    · rw [pk_uLn ec]
      by_cases z : c < n
      · rw [if_pos z, if_pos (by omega)]
      · rw [if_neg z, if_neg (by omega)]
  · simp only [if_neg e]
theorem sh_kp {V : gV} {M n : Nat} {x : Int32} : KpM V (wI (shV V M n) M 3 x) M := ⟨fun b hb => by rw [(wI_off b hb).1]; rfl, fun j hj => by show (if M = M then upd (V.1 M) 3 x else _) j = _; rw [if_pos rfl, pk_un hj], fun b hb => by funext c; show (if b = M + 3 then _ else V.2.1 b c) = V.2.1 b c; rw [if_neg (by omega)], rfl⟩
theorem sh_pq {V : gV} {M : Nat} {f : Nat → Int64} {x : Int32} (hf : PQ V M f) : PQ (wI (shV V M 2745) M 3 x) M f := fun j hj => by
  show (if M + 1 = M + 3 then _ else V.2.1 (M + 1) j) = _
  rw [if_neg (by omega)]; exact hf j hj
theorem br_kp {V : gV} {M h : Nat} {x : Int32} : KpM V (wI (brV V (M + 1) (M + 3) 0 (915 * h) 915) M 3 x) M := ⟨fun b hb => by rw [(wI_off b hb).1]; rfl, fun j hj => by show (if M = M then upd (V.1 M) 3 x else _) j = _; rw [if_pos rfl, pk_un hj], fun b hb => by show (brV V (M + 1) (M + 3) 0 (915 * h) 915).2.1 b = _; exact brV_off (by omega), rfl⟩
theorem sh_pages {V : gV} {M : Nat} {H : Nat → Nat → Int64} {x : Int32} (hx : x = nI 3) (g : HQ V M 4 H) : HQ (wI (shV V M 2745) M 3 x) M 3 (fun k => H (k + 1)) := ⟨by show (if M = M then upd (V.1 M) 3 x else _) 3 = _; rw [if_pos rfl, pk_us, hx], by omega, fun k hk j hj => by
  show (if M + 3 = M + 3 then (if 915 * k + j < 2745 then V.2.1 (M + 3) (915 * k + j + 915) else _) else _) = _
  rw [if_pos rfl, if_pos (by omega)]
  show _ = H (k + 1) j
  rw [← g.2.2 (k + 1) (by omega) j hj, show 915 * (k + 1) + j = 915 * k + j + 915 by omega]⟩
theorem br_pages {V : gV} {M h : Nat} {H : Nat → Nat → Int64} {f : Nat → Int64} (hf : PQ V M f) (hh : h < 4) (g : HQ V M h H) : HQ (wI (brV V (M + 1) (M + 3) 0 (915 * h) 915) M 3 (nI (h + 1))) M (h + 1) (va_up H h f) := ⟨by show (if M = M then upd (V.1 M) 3 _ else _) 3 = _; rw [if_pos rfl, pk_us], by omega, fun k hk j hj => by
  show (brV V (M + 1) (M + 3) 0 (915 * h) 915).2.1 (M + 3) (915 * k + j) = _
  by_cases e : k = h
  · subst e; rw [brV_y hj, Nat.zero_add, va_up_self]; exact hf j hj
  · rw [brV_o (by omega), va_up_ne _ _ e]; exact g.2.2 k (by omega) j hj⟩
theorem unb {h : Nat} (hh : h ≤ 4) : nI h = 0 ↔ h = 0 := nI_eq (b := 0) (by omega) (by decide)
theorem undo_all {V : gV} {M h : Nat} {H : Nat → Nat → Int64} (g : HQ V M (h + 1) H) : PQ (brV (wI V M 3 (nI h)) (M + 3) (M + 1) (915 * h) 0 915) M (H h) ∧ HQ (brV (wI V M 3 (nI h)) (M + 3) (M + 1) (915 * h) 0 915) M h H ∧ KpM V (brV (wI V M 3 (nI h)) (M + 3) (M + 1) (915 * h) 0 915) M := by
  refine ⟨fun j hj => ?_, ⟨?_, by have := g.2.1; omega, fun k hk j hj => ?_⟩, fun b hb => ?_, fun j hj => ?_, fun b hb => ?_, rfl⟩
  · have z := brV_y (V := wI V M 3 (nI h)) (x := M + 3) (y := M + 1) (i := 915 * h) (j := 0) hj
    rw [Nat.zero_add] at z
    exact z.trans (g.2.2 h (by omega) j hj)
  · show (if M = M then upd (V.1 M) 3 _ else _) 3 = _; rw [if_pos rfl, pk_us]
  · exact (congrFun (brV_off (show M + 3 ≠ M + 1 by omega)) _).trans (g.2.2 k (by omega) j hj)
  · exact (wI_off b hb).1
  · show (if M = M then upd (V.1 M) 3 _ else _) j = _; rw [if_pos rfl, pk_un hj]
  · exact brV_off (show b ≠ M + 1 by omega)
/-- behind a call of the reference -/
def AfM (V V1 : gV) (M : Nat) (f : Nat → Int64) (h : Nat) (H : Nat → Nat → Int64) (x : Option (Nat → Int64)) : Prop := (match x with
  | none => PQ V1 M f ∧ HQ V1 M h H
  | some f1 => PQ V1 M f1 ∧ HQ V1 M (remN h) (keepH f h H)) ∧ KpM V V1 M
theorem AfM.no {V : gV} {M h : Nat} {f : Nat → Int64} {H : Nat → Nat → Int64} (hf : PQ V M f) (hh : HQ V M h H) : AfM V V M f h H none := ⟨⟨hf, hh⟩, KpM.rf⟩
theorem AfM.of {V V1 V2 : gV} {M h : Nat} {f f1 : Nat → Int64} {H : Nat → Nat → Int64} (y : HQ V1 M (remN h) (keepH f h H)) (k : KpM V V1 M) (g : Pg V1 V2 M f1) : AfM V V2 M f h H (some f1) := ⟨⟨g.2.2.2, y.pg g⟩, k.trans g.kp⟩
def mArm (f : Nat → Int64) (x y : Int32) : Int32 × Option (Nat → Int64) := if okR x 1 20 ∧ okR y 1 20 then (100 * (f 0).toInt32 + (f 1).toInt32, some (va_up (va_up f 0 x.toInt64) 1 y.toInt64)) else (-2000000001, none)
def mPiv (f : Nat → Int64) (x y : Int32) : Int32 × Option (Nat → Int64) := if okR x 0 1000 ∧ okR y 0 1000 then (10000 * (f 2).toInt32 + (f 3).toInt32, some (va_up (va_up f 2 x.toInt64) 3 y.toInt64)) else (-2000000001, none)
abbrev stOK (q v : Int32) : Prop := (q = 0 ∧ okR v 0 2) ∨ (q = 1 ∧ okR v 0 50) ∨ ((q = 2 ∨ q = 3) ∧ okR v 10 1000) ∨ (q = 4 ∧ okR v 1 1000)
theorem st_0 {v : Int32} : okR v 0 2 ↔ stOK 0 v := ⟨fun z => Or.inl ⟨rfl, z⟩, fun z => by
  rcases z with ⟨q, z⟩ | ⟨q, z⟩ | ⟨q | q, z⟩ | ⟨q, z⟩
  · exact z
  · exact absurd q (by decide)
  · exact absurd q (by decide)
  · exact absurd q (by decide)
  · exact absurd q (by decide)⟩
theorem st_1 {v : Int32} : okR v 0 50 ↔ stOK 1 v := ⟨fun z => Or.inr (Or.inl ⟨rfl, z⟩), fun z => by
  rcases z with ⟨q, z⟩ | ⟨q, z⟩ | ⟨q | q, z⟩ | ⟨q, z⟩
  · exact absurd q (by decide)
  · exact z
  · exact absurd q (by decide)
  · exact absurd q (by decide)
  · exact absurd q (by decide)⟩
theorem st_2 {v : Int32} : okR v 10 1000 ↔ stOK 2 v := ⟨fun z => Or.inr (Or.inr (Or.inl ⟨Or.inl rfl, z⟩)), fun z => by
  rcases z with ⟨q, z⟩ | ⟨q, z⟩ | ⟨q | q, z⟩ | ⟨q, z⟩
  · exact absurd q (by decide)
  · exact absurd q (by decide)
  · exact z
  · exact absurd q (by decide)
  · exact absurd q (by decide)⟩
theorem st_3 {v : Int32} : okR v 10 1000 ↔ stOK 3 v := ⟨fun z => Or.inr (Or.inr (Or.inl ⟨Or.inr rfl, z⟩)), fun z => by
  rcases z with ⟨q, z⟩ | ⟨q, z⟩ | ⟨q | q, z⟩ | ⟨q, z⟩
  · exact absurd q (by decide)
  · exact absurd q (by decide)
  · exact absurd q (by decide)
  · exact z
  · exact absurd q (by decide)⟩
theorem st_4 {v : Int32} : okR v 1 1000 ↔ stOK 4 v := ⟨fun z => Or.inr (Or.inr (Or.inr ⟨rfl, z⟩)), fun z => by
  rcases z with ⟨q, z⟩ | ⟨q, z⟩ | ⟨q | q, z⟩ | ⟨q, z⟩
  · exact absurd q (by decide)
  · exact absurd q (by decide)
  · exact absurd q (by decide)
  · exact absurd q (by decide)
  · exact z⟩
def mSet (f : Nat → Int64) (w v : Int32) : Int32 × Option (Nat → Int64) := if stOK w v then ((f (4 + w.toNatClampNeg)).toInt32, some (va_up f (4 + w.toNatClampNeg) v.toInt64)) else (-2000000001, none)
def mShp (f : Nat → Int64) : Int32 × Option (Nat → Int64) := if f 10 = 10 then (-2000000003, none) else ((f 9).toInt32, some (va_up (va_up f 10 (f 10 + 1)) 9 0))
def mCnt (f : Nat → Int64) (h zn : Nat) (w : Int32) : Int32 := if w = 0 then (f 14).toInt32 else if w = 11 then bi (¬ 1 + f 9 / f 8 ≤ 9) else if w = 12 then 10 - (f 10).toInt32 else if w = 13 then (f 11).toInt32 else if w = 14 then (f 12).toInt32 else if w = 15 then (f 13).toInt32 else if w = 16 then nI h else if w = 17 then nI zn else if okR w 1 10 then (f (w - 1).toNatClampNeg).toInt32 else -2000000001
theorem ok_n {w : Int32} (h : okR w 1 10) : ∃ j, j < 10 ∧ w = nI (j + 1) := by
  have h1 : 1 ≤ w.toInt := by
    have := h.1; rw [Int32.lt_iff_toInt_lt] at this; have e : (1 : Int32).toInt = 1 := rfl; omega
  have h2 : w.toInt ≤ 10 := by
    have := h.2; rw [Int32.lt_iff_toInt_lt] at this; have e : (10 : Int32).toInt = 10 := rfl; omega
  exact ⟨(w.toInt - 1).toNat, by omega, Int32.toInt_inj.mp (by rw [nI_toInt (by omega)]; omega)⟩
theorem mCnt_in {f : Nat → Int64} {h zn j : Nat} (hj : j < 10) : mCnt f h zn (nI (j + 1)) = (f j).toInt32 := by
  have hq : j = 0 ∨ j = 1 ∨ j = 2 ∨ j = 3 ∨ j = 4 ∨ j = 5 ∨ j = 6 ∨ j = 7 ∨ j = 8 ∨ j = 9 := by omega
  rcases hq with rfl | rfl | rfl | rfl | rfl | rfl | rfl | rfl | rfl | rfl <;> rfl
theorem mCnt_out {f : Nat → Int64} {h zn : Nat} {w : Int32} (hw : w.toInt < 0 ∨ 17 < w.toInt) (hn : ¬ okR w 1 10) : mCnt f h zn w = -2000000001 := by
  have ne : ∀ z : Int32, 0 ≤ z.toInt → z.toInt ≤ 17 → ¬ w = z := fun z z1 z2 zz => by rw [zz] at hw; omega
  unfold mCnt
  rw [if_neg (ne 0 (by decide) (by decide)), if_neg (ne 11 (by decide) (by decide)), if_neg (ne 12 (by decide) (by decide)), if_neg (ne 13 (by decide) (by decide)), if_neg (ne 14 (by decide) (by decide)), if_neg (ne 15 (by decide) (by decide)), if_neg (ne 16 (by decide) (by decide)), if_neg (ne 17 (by decide) (by decide)), if_neg hn]
def bgL (f : Nat → Int64) (n w : Nat) (j : Nat) : Int64 := if 15 + 150 * n ≤ j ∧ j < 15 + 150 * n + w then 0 else f j
theorem bgL_0 {f : Nat → Int64} {n : Nat} : bgL f n 0 = f := by
  funext j; unfold bgL; rw [if_neg (by omega)]
theorem bgL_s {f : Nat → Int64} {n w : Nat} : va_up (bgL f n w) (hdC n w) 0 = bgL f n (w + 1) := by
  funext j
  unfold bgL hdC
  by_cases e : j = 15 + 150 * n + w
  · subst e; rw [va_up_self, if_pos (by omega)]
  · rw [va_up_ne _ _ e]
    by_cases z : 15 + 150 * n ≤ j ∧ j < 15 + 150 * n + w
    · rw [if_pos z, if_pos (by omega)]
    · rw [if_neg z, if_neg (by omega)]
def bgF (f : Nat → Int64) (n : Nat) : Nat → Int64 := va_up (va_up (va_up (va_up (va_up (va_up (va_up (bgL (va_up f 14 (f 14 + 1)) n 150) (hdC n 1) (-1)) (hdC n 2) 1) (hdC n 3) 1) (hdC n 4) 1) (hdC n 5) 1) (hdC n 7) 1) (hdC n 9) 1
def mDrw (f : Nat → Int64) (n : Nat) : Int32 × Option (Nat → Int64) := if n = 6 then (-2000000003, none) else (nI n, some (bgF f n))
/-- the lengths can be reckoned -/
def LnOK (f : Nat → Int64) (d k : Nat) : Prop := ¬ dvs (f (ceC d k + 1)) (f (ceC d (k - 1) + 1)) = 0 ∧ ¬ dvs (f (ceC d k + 3)) (f (ceC d (k - 1) + 3)) = 0 ∧ ¬ dvs (lqD f d k 0) (lqD f d k 2) = 0 ∧ ¬ leD f d k = 0
def adP (f : Nat → Int64) (d k : Nat) (x y : Int32) (w : Int64) : Nat → Int64 := va_up (va_up (va_up (va_up (va_up (va_up f (ceC d k) x.toInt64) (ceC d k + 1) 1) (ceC d k + 2) y.toInt64) (ceC d k + 3) 1) (ceC d k + 4) w) (ceC d k + 5) w
def adQ (f : Nat → Int64) (d k : Nat) (x y : Int32) (b : Bool) : Nat → Int64 := va_up (adP f d k x y (if b then 1 else 0)) (ceC d k + 6) (if b then (leN (adP f d k x y 1) d k / leD (adP f d k x y 1) d k).toInt32.toInt64 else 0)
def adF (f : Nat → Int64) (d k : Nat) (x y : Int32) (b : Bool) : Nat → Int64 := va_up (adQ f d k x y b) (hdC d 0) (adQ f d k x y b (hdC d 0) + 1)
abbrev inM (n : Nat) (i : Int32) : Prop := ¬ i < 0 ∧ ¬ nI n ≤ i
theorem inM_n {n : Nat} (hn : n ≤ 100) {i : Int32} (h : inM n i) : ∃ d, d < n ∧ i = nI d ∧ (nI d).toNatClampNeg = d := by
  obtain ⟨d, zd, rfl⟩ := nI_of h.1
  have z1 := h.2
  rw [nI_leI (by omega) zd] at z1
  exact ⟨d, by omega, rfl, nI_clamp zd⟩
def mPnt (f : Nat → Int64) (n : Nat) (np : Nat → Nat) (i x y q : Int32) : Int32 × Option (Nat → Int64) :=
  if ¬ (inM n i ∧ okR x 0 1000 ∧ okR y 0 1000 ∧ okR q 0 1) then (-2000000001, none)
  else if ¬ f (hdC i.toNatClampNeg 1) = -1 ∨ pcp f i n = true then (-2000000002, none)
  else if np i.toNatClampNeg = 20 then (-2000000003, none)
  else (nI (np i.toNatClampNeg), some (adF f i.toNatClampNeg (np i.toNatClampNeg) x y (decide (q = 1 ∧ 0 < np i.toNatClampNeg))))
theorem adF_n {f : Nat → Int64} {d k : Nat} {x y : Int32} {b : Bool} (hp : f (hdC d 0) = lN k) (hd : d ≤ 5) (hk : k < 20) : adF f d k x y b (hdC d 0) = lN (k + 1) := by
  have ne : ∀ j, j ≤ 6 → hdC d 0 ≠ ceC d k + j := fun j hj => by unfold hdC ceC; omega
  have e : adQ f d k x y b (hdC d 0) = lN k := by
    unfold adQ adP
    rw [va_up_ne _ _ (ne 6 (by decide)), va_up_ne _ _ (ne 5 (by decide)), va_up_ne _ _ (ne 4 (by decide)), va_up_ne _ _ (ne 3 (by decide)), va_up_ne _ _ (ne 2 (by decide)), va_up_ne _ _ (ne 1 (by decide)), va_up_ne _ _ (show hdC d 0 ≠ ceC d k from ne 0 (by decide)), hp]
  unfold adF
  rw [va_up_self, e]
  exact lN_1 k
def shN (f : Nat → Int64) (i ax : Nat) : Int64 := rdN (aimA f ax (f (hdC i (6 + 2 * ax))) (f (hdC i (6 + 2 * ax) + 1))) (aimB f (f (hdC i (6 + 2 * ax) + 1)))
def shD (f : Nat → Int64) (i ax : Nat) : Int64 := rdD (aimA f ax (f (hdC i (6 + 2 * ax))) (f (hdC i (6 + 2 * ax) + 1))) (aimB f (f (hdC i (6 + 2 * ax) + 1)))
def shF (f : Nat → Int64) (i w ax : Nat) : Nat → Int64 := va_up (va_up f (hdC w (6 + 2 * ax)) (shN f i ax)) (hdC w (6 + 2 * ax) + 1) (shD f i ax)
def mtP (f : Nat → Int64) (i k ax : Nat) : Int64 × Int64 := (rdN (aimA f ax (f (ceC i k + 2 * ax)) (f (ceC i k + 2 * ax + 1))) (aimB f (f (ceC i k + 2 * ax + 1))), rdD (aimA f ax (f (ceC i k + 2 * ax)) (f (ceC i k + 2 * ax + 1))) (aimB f (f (ceC i k + 2 * ax + 1))))
def mtQ (b : Bool) (f : Nat → Int64) (i w k ax : Nat) : Int64 × Int64 := if b then (folN f (mtP f i k ax).1 (mtP f i k ax).2 (f (ceC w k - 7 + 2 * ax)) (f (ceC w k - 7 + 2 * ax + 1)), folD f (mtP f i k ax).1 (mtP f i k ax).2 (f (ceC w k - 7 + 2 * ax)) (f (ceC w k - 7 + 2 * ax + 1))) else mtP f i k ax
def mtS (b : Bool) (f : Nat → Int64) (i w k ax : Nat) : Nat → Int64 := va_up (va_up f (ceC w k + 2 * ax) (mtQ b f i w k ax).1) (ceC w k + 2 * ax + 1) (mtQ b f i w k ax).2
def mtT (b : Bool) (f : Nat → Int64) (i w k : Nat) : Nat → Int64 := mtS b (mtS b f i w k 0) i w k 1
def mtF (f : Nat → Int64) (i w k : Nat) : Nat → Int64 := va_up (mtT (decide (f (ceC i k + 4) = 1)) f i w k) (ceC w k + 4) (mtT (decide (f (ceC i k + 4) = 1)) f i w k (ceC i k + 4))
def FoOK (f : Nat → Int64) (i w k ax : Nat) : Prop := ¬ dvs (mtP f i k ax).2 (f (ceC w k - 7 + 2 * ax + 1)) = 0 ∧ ¬ dvs (mtP f i k ax).2 1 = 0
def mRt (f : Nat → Int64) : Nat → Nat → Nat
  | 0, d => d
  | w + 1, d => if (f (hdC d 1)).toInt32 = -1 then d else mRt f w (f (hdC d 1)).toInt32.toNatClampNeg
def mSt (f : Nat → Int64) : Nat → Nat → Nat
  | 0, _ => 0
  | w + 1, d => if (f (hdC d 1)).toInt32 = -1 then 0 else mSt f w (f (hdC d 1)).toInt32.toNatClampNeg + 1
def ParOK (f : Nat → Int64) (n : Nat) : Prop := ∀ d, d < n → (f (hdC d 1)).toInt32 = -1 ∨ ∃ q, q < d ∧ (f (hdC d 1)).toInt32 = nI q
theorem mRt_b {f : Nat → Int64} {n : Nat} (hn6 : n ≤ 6) (hP : ParOK f n) : ∀ (w d : Nat), d < w → d < n → ∀ w2, d < w2 → mRt f w d = mRt f w2 d ∧ mSt f w d = mSt f w2 d := by
  intro w
  induction w with
  | zero => intro d hd; omega
  | succ w ih =>
    intro d hd hn w2 h2
    obtain ⟨v, rfl⟩ : ∃ v, w2 = v + 1 := ⟨w2 - 1, by omega⟩
    unfold mRt mSt
    rcases hP d hn with h | ⟨q, hq, h⟩
    · rw [if_pos h, if_pos h, if_pos h, if_pos h]; exact ⟨rfl, rfl⟩
    · rw [h, nI_clamp (show q < 2 ^ 31 by omega)]
      obtain ⟨e1, e2⟩ := ih q (by omega) (by omega) v (by omega)
      rw [e1, e2]
      exact ⟨rfl, rfl⟩
def mlW (f : Nat → Int64) : Int64 := if 1 + f 9 / f 8 ≤ 9 then 1 + f 9 / f 8 else 9
def mlA (f : Nat → Int64) (d k : Nat) : Nat → Int64 := va_up f (ceC d k + 5) (mlW f)
def mlB (f : Nat → Int64) (d k : Nat) : Nat → Int64 := va_up (mlA f d k) (ceC d k + 6) (leN (mlA f d k) d k / leD (mlA f d k) d k).toInt32.toInt64
def mlG (f : Nat → Int64) (d k : Nat) : Nat → Int64 := va_up (mlB f d k) 9 (mlB f d k 9 + mlB f d k (ceC d k + 6))
def mlH (f : Nat → Int64) (d k : Nat) : Nat → Int64 := va_up (mlG f d k) 11 (mlG f d k 11 + 1)
def mlF (f : Nat → Int64) (d k : Nat) : Nat → Int64 := if onP f d k = true ∧ onP f d (k - 1) = true then va_up (mlH f d k) 12 (mlH f d k 12 + mlH f d k (ceC d k + 6)) else va_up f 13 (f 13 + 1)
def mlN (f : Nat → Int64) (d : Nat) : Nat → Int32 × Int32 × Int32
  | 0 => (0, 0, 0)
  | k + 1 => ((mlN f d k).1 + (if (f (ceC d k + 5)).toInt32 ≤ 0 then 0 else 1), (mlN f d k).2.1 + (f (ceC d k + 6)).toInt32, if (f (ceC d k + 5)).toInt32 ≤ (mlN f d k).2.2 then (mlN f d k).2.2 else (f (ceC d k + 5)).toInt32)
def mlR (f : Nat → Int64) (d z : Nat) (q : Int32) : Int32 := if q = 6 then (mlN f d z).1 else if q = 7 then (mlN f d z).2.1 else (mlN f d z).2.2
def obC (f : Nat → Int64) (d : Nat) : Nat → Int32
  | 0 => 0
  | k + 1 => obC f d k + (if onP f d k = true then 0 else 1)
/-- the text of the reference: its length and its signs -/
def TQ (V : gV) (M zn : Nat) (cs : Nat → Int32) : Prop := V.1 M 5 = nI zn ∧ zn ≤ 100 ∧ ∀ j, j < zn → V.1 (M + 4) j = cs j
/-- only the text changed -/
def KtM (V V1 : gV) (M : Nat) : Prop := (∀ b, b ≠ M → b ≠ M + 4 → V1.1 b = V.1 b) ∧ (∀ j, j ≠ 5 → V1.1 M j = V.1 M j) ∧ V1.2 = V.2
theorem TQ.add {V : gV} {M zn : Nat} {cs : Nat → Int32} {x : Int32} (g : TQ V M zn cs) (hz : zn < 100) : TQ (wI (wI V (M + 4) zn x) M 5 (nI (zn + 1))) M (zn + 1) (va_up cs zn x) ∧ KtM V (wI (wI V (M + 4) zn x) M 5 (nI (zn + 1))) M := by
  refine ⟨⟨?_, by omega, fun j hj => ?_⟩, fun b hb hb2 => ?_, fun j hj => ?_, rfl⟩
  · show (if M = M then upd _ 5 _ else _) 5 = _; rw [if_pos rfl, pk_us]
  · rw [(wI_off (M + 4) (by omega)).1]
    show (if M + 4 = M + 4 then upd (V.1 (M + 4)) zn x else _) j = _
    rw [if_pos rfl]
    by_cases e : j = zn
    · subst e; rw [pk_us, va_up_self]
    · rw [pk_un e, va_up_ne _ _ e]; exact g.2.2 j (by omega)
  · rw [(wI_off b hb).1, (wI_off b hb2).1]
  · show (if M = M then upd ((wI V (M + 4) zn x).1 M) 5 _ else _) j = _
    rw [if_pos rfl, pk_un hj, (wI_off M (by omega)).1]
def mTyp (zn : Nat) (cs : Nat → Int32) (x : Int32) : Int32 × Option (Nat × (Nat → Int32)) := if ¬ okR x 32 126 then (-2000000001, none) else if zn = 100 then (-2000000003, none) else (nI (zn + 1), some (zn + 1, va_up cs zn x))
/-! remove -/
def rmL (f : Nat → Int64) (d w : Nat) (j : Nat) : Int64 := if 15 + 150 * d ≤ j ∧ j < 15 + 150 * d + w then f (j + 150) else f j
theorem rmL_0 {f : Nat → Int64} {d : Nat} : rmL f d 0 = f := by
  funext j; unfold rmL; rw [if_neg (by omega)]
theorem rmL_s {f : Nat → Int64} {d w : Nat} : va_up (rmL f d w) (hdC d 0 + w) (rmL f d w (hdC d 0 + w + 150)) = rmL f d (w + 1) := by
  funext j
  unfold rmL hdC
  by_cases e : j = 15 + 150 * d + 0 + w
  · subst e; rw [va_up_self, if_neg (by omega), if_pos (by omega)]
  · rw [va_up_ne _ _ e]
    by_cases z : 15 + 150 * d ≤ j ∧ j < 15 + 150 * d + w
    · rw [if_pos z, if_pos (by omega)]
    · rw [if_neg z, if_neg (by omega)]
def mrP (f : Nat → Int64) (x : Int64) : Nat → Nat → Int64
  | 0 => f
  | j + 1 => va_up (mrP f x j) (hdC j 1) (mrP f x j (hdC j 1) - (if mrP f x j (hdC j 1) ≤ x then 0 else 1))
theorem mrP_0 {f : Nat → Int64} {x : Int64} : ∀ (j c : Nat), (∀ k, k < j → c ≠ hdC k 1) → mrP f x j c = f c
  | 0, _, _ => rfl
  | j + 1, c, h => by
    show va_up (mrP f x j) (hdC j 1) _ c = _
    rw [va_up_ne _ _ (h j (Nat.lt_succ_self j))]
    exact mrP_0 j c (fun k hk => h k (Nat.lt_succ_of_lt hk))
def rmB (f : Nat → Int64) (n d : Nat) : Nat → Int64 := rmL (va_up f 14 (f 14 - 1)) d (150 * (n - 1 - d))
def rmF (f : Nat → Int64) (n d : Nat) : Nat → Int64 := mrP (rmB f n d) (nI d).toInt64 (n - 1)
def mRem (f : Nat → Int64) (n : Nat) (i : Int32) : Int32 × Option (Nat → Int64) := if ¬ inM n i then (-2000000001, none) else if pcp f i n = true then (-2000000002, none) else (nI (n - 1), some (rmF f n i.toNatClampNeg))
theorem rm_14 {f : Nat → Int64} {n d w : Nat} (h14 : f 14 = lN n) (hn : 0 < n) : rmL (va_up f 14 (f 14 - 1)) d w 14 = lN (n - 1) := by
  unfold rmL
  rw [if_neg (by omega), va_up_self, h14]
  obtain ⟨q, rfl⟩ : ∃ q, n = q + 1 := ⟨n - 1, by omega⟩
  rw [← lN_1 q]
  show lN q + 1 - 1 = lN q
  exact Int64.add_sub_cancel _ _
theorem rm_14b {f : Nat → Int64} {n d j : Nat} {x : Int64} (h14 : f 14 = lN n) (hn : 0 < n) : mrP (rmB f n d) x j 14 = lN (n - 1) := by
  rw [mrP_0 j 14 (fun k _ => by unfold hdC; omega)]
  exact rm_14 h14 hn
/-! copies -/
def cp1 (f : Nat → Int64) (n d : Nat) : Nat → Int64 := va_up (bgF f n) (hdC n 1) (nI d).toInt64
def cpN (f : Nat → Int64) (n d : Nat) : Int64 := rdN (cp1 f n d (hdC d 2) * cp1 f n d 0) (cp1 f n d (hdC d 3) * cp1 f n d 1)
def cpD (f : Nat → Int64) (n d : Nat) : Int64 := rdD (cp1 f n d (hdC d 2) * cp1 f n d 0) (cp1 f n d (hdC d 3) * cp1 f n d 1)
def cp2 (f : Nat → Int64) (n d : Nat) : Nat → Int64 := va_up (va_up (cp1 f n d) (hdC n 2) (cpN f n d)) (hdC n 2 + 1) (cpD f n d)
def cp3 (g : Nat → Int64) (n d ax : Nat) : Nat → Int64 := shF (va_up g (hdC n (4 + ax)) (g (hdC d (4 + ax)) * (sgf g ax).toInt64)) d n ax
def cp4 (f : Nat → Int64) (n d : Nat) : Nat → Int64 := cp3 (cp3 (cp2 f n d) n d 0) n d 1
def cpT (g : Nat → Int64) (d n : Nat) : Nat → Nat → Int64
  | 0 => g
  | k + 1 => mtF (cpT g d n k) d n k
def cpB0 (f : Nat → Int64) (n d : Nat) : Bool := decide (¬ 100000 < cpN f n d) && decide (¬ 100000 < cpD f n d)
def cpB (g : Nat → Int64) (d n : Nat) (b : Bool) : Nat → Bool
  | 0 => b
  | k + 1 => (cpB g d n b k && decide (¬ 100000 < cpT g d n (k + 1) (ceC n k + 1))) && decide (¬ 100000 < cpT g d n (k + 1) (ceC n k + 3))
def cpF (f : Nat → Int64) (n d z : Nat) : Nat → Int64 := va_up (cpT (cp4 f n d) d n z) (hdC n 0) (nI z).toInt64
def cpZ (f : Nat → Int64) (n d z : Nat) : Bool := cpB (cp4 f n d) d n (cpB0 f n d) z
/-- tracing can be reckoned -/
def CpOK (f : Nat → Int64) (n d z : Nat) : Prop := ∀ k, k < z → cpT (cp4 f n d) d n k (ceC d k + 4) = 1 → FoOK (cpT (cp4 f n d) d n k) d n k 0 ∧ FoOK (mtS true (cpT (cp4 f n d) d n k) d n k 0) d n k 1
/-- below the new drawing's cells -/
theorem mtS_lo {b : Bool} {g : Nat → Int64} {d n k ax j : Nat} (hj : j < 15 + 150 * n) : mtS b g d n k ax j = g j := by
  unfold mtS
  rw [va_up_ne _ _ (by unfold ceC; omega), va_up_ne _ _ (by unfold ceC; omega)]
theorem mtF_lo {g : Nat → Int64} {d n k j : Nat} (hj : j < 15 + 150 * n) : mtF g d n k j = g j := by
  unfold mtF mtT
  rw [va_up_ne _ _ (by unfold ceC; omega), mtS_lo hj, mtS_lo hj]
theorem cpT_lo {g : Nat → Int64} {d n j : Nat} (hj : j < 15 + 150 * n) : ∀ k, cpT g d n k j = g j
  | 0 => rfl
  | k + 1 => (mtF_lo hj).trans (cpT_lo hj k)
theorem cp3_lo {g : Nat → Int64} {d n ax j : Nat} (hj : j < 15 + 150 * n) : cp3 g n d ax j = g j := by
  unfold cp3 shF
  rw [va_up_ne _ _ (by unfold hdC; omega), va_up_ne _ _ (by unfold hdC; omega), va_up_ne _ _ (by unfold hdC; omega)]
theorem bgF_lo {f : Nat → Int64} {n j : Nat} (hj : j < 15 + 150 * n) (h14 : j ≠ 14) : bgF f n j = f j := by
  unfold bgF
  rw [va_up_ne _ _ (by unfold hdC; omega), va_up_ne _ _ (by unfold hdC; omega), va_up_ne _ _ (by unfold hdC; omega), va_up_ne _ _ (by unfold hdC; omega), va_up_ne _ _ (by unfold hdC; omega), va_up_ne _ _ (by unfold hdC; omega), va_up_ne _ _ (by unfold hdC; omega)]
  unfold bgL
  rw [if_neg (by omega), va_up_ne _ _ h14]
theorem bgF_14 {f : Nat → Int64} {n : Nat} : bgF f n 14 = f 14 + 1 := by
  unfold bgF
  rw [va_up_ne _ _ (by unfold hdC; omega), va_up_ne _ _ (by unfold hdC; omega), va_up_ne _ _ (by unfold hdC; omega), va_up_ne _ _ (by unfold hdC; omega), va_up_ne _ _ (by unfold hdC; omega), va_up_ne _ _ (by unfold hdC; omega), va_up_ne _ _ (by unfold hdC; omega)]
  unfold bgL
  rw [if_neg (by omega), va_up_self]
theorem cp1_lo {f : Nat → Int64} {d n j : Nat} (hj : j < 15 + 150 * n) (h14 : j ≠ 14) : cp1 f n d j = f j := by
  unfold cp1
  rw [va_up_ne _ _ (by unfold hdC; omega), bgF_lo hj h14]
theorem cp2_lo {f : Nat → Int64} {d n j : Nat} (hj : j < 15 + 150 * n) (h14 : j ≠ 14) : cp2 f n d j = f j := by
  unfold cp2
  rw [va_up_ne _ _ (by unfold hdC; omega), va_up_ne _ _ (by unfold hdC; omega), cp1_lo hj h14]
theorem cp4_lo {f : Nat → Int64} {d n j : Nat} (hj : j < 15 + 150 * n) (h14 : j ≠ 14) : cp4 f n d j = f j := by
  unfold cp4
  rw [cp3_lo hj, cp3_lo hj, cp2_lo hj h14]
theorem cp_lo {f : Nat → Int64} {d n k j : Nat} (hj : j < 15 + 150 * n) (h14 : j ≠ 14) : cpT (cp4 f n d) d n k j = f j := by
  rw [cpT_lo hj, cp4_lo hj h14]
theorem cpF_lo {f : Nat → Int64} {d n z j : Nat} (hj : j < 15 + 150 * n) (h14 : j ≠ 14) : cpF f n d z j = f j := by
  unfold cpF
  rw [va_up_ne _ _ (by unfold hdC; omega), cp_lo hj h14]
theorem cpF_14 {f : Nat → Int64} {d n z : Nat} : cpF f n d z 14 = f 14 + 1 := by
  unfold cpF
  rw [va_up_ne _ _ (by unfold hdC; omega), cpT_lo (by omega)]
  unfold cp4
  rw [cp3_lo (by omega), cp3_lo (by omega)]
  unfold cp2 cp1
  rw [va_up_ne _ _ (by unfold hdC; omega), va_up_ne _ _ (by unfold hdC; omega), va_up_ne _ _ (by unfold hdC; omega), bgF_14]
/-! reason, why, copy -/
theorem br_pq {V : gV} {M : Nat} {f : Nat → Int64} (hf : PQ V M f) : PQ (brV V (M + 1) (M + 2) 0 0 915) M f := fun j hj => by
  rw [brV_off (show M + 1 ≠ M + 2 by omega)]; exact hf j hj
theorem br_back {V V1 : gV} {M h : Nat} {f g : Nat → Int64} {H : Nat → Nat → Int64} (hf : PQ V M f) (hh : HQ V M h H) (zc : Pg (brV V (M + 1) (M + 2) 0 0 915) V1 M g) : PQ (brV V1 (M + 2) (M + 1) 0 0 915) M f ∧ HQ (brV V1 (M + 2) (M + 1) 0 0 915) M h H ∧ KpM V (brV V1 (M + 2) (M + 1) 0 0 915) M := by
  have e1 : V1.1 = V.1 := zc.1
  refine ⟨fun j hj => ?_, ⟨?_, hh.2.1, fun k hk j hj => ?_⟩, fun b _ => ?_, fun j _ => ?_, fun b hb => ?_, zc.2.2.1⟩
  · have z := brV_y (V := V1) (x := M + 2) (y := M + 1) (i := 0) (j := 0) hj
    have z2 := brV_y (V := V) (x := M + 1) (y := M + 2) (i := 0) (j := 0) hj
    rw [Nat.zero_add] at z z2
    rw [z, zc.2.1 (M + 2) (by omega) (by omega), z2]
    exact hf j hj
  · show V1.1 M 3 = _; rw [e1]; exact hh.1
  · rw [brV_off (show M + 3 ≠ M + 1 by omega), zc.2.1 (M + 3) (by omega) (by omega), brV_off (show M + 3 ≠ M + 2 by omega)]
    exact hh.2.2 k hk j hj
  · show V1.1 b = _; rw [e1]
  · show V1.1 M j = _; rw [e1]
  · rw [brV_off (show b ≠ M + 1 by omega), zc.2.1 b (by omega) (by omega), brV_off (show b ≠ M + 2 by omega)]
def mRea (f : Nat → Int64) (n : Nat) (np : Nat → Nat) (d : Nat) : Int32 := if np d = 0 then 1 else if ¬ 1 + f 9 / f 8 ≤ 9 then 2 else if n = 6 then 3 else if cpZ f n d (np d) = true then 0 else 4
def mWhy (f : Nat → Int64) (n : Nat) (np : Nat → Nat) (i : Int32) : Int32 := if inM n i then mRea f n np i.toNatClampNeg else -2000000001
def cyL (g : Nat → Int64) (n : Nat) : Nat → Nat → Int64
  | 0 => g
  | k + 1 => if cyL g n k (ceC n k + 4) = 1 then mlF (cyL g n k) n k else cyL g n k
theorem mlF_o {g : Nat → Int64} {n k j : Nat} (h5 : j ≠ ceC n k + 5) (h6 : j ≠ ceC n k + 6) (h : j < 9 ∨ 13 < j) : mlF g n k j = g j := by
  unfold mlF mlH mlG mlB mlA
  split
  · rw [va_up_ne _ _ (by omega), va_up_ne _ _ (by omega), va_up_ne _ _ (by omega), va_up_ne _ _ h6, va_up_ne _ _ h5]
  · rw [va_up_ne _ _ (by omega)]
theorem cyL_o {g : Nat → Int64} {n j : Nat} (h : j < 9 ∨ 13 < j) : ∀ k, (∀ k2, k2 < k → j ≠ ceC n k2 + 5 ∧ j ≠ ceC n k2 + 6) → cyL g n k j = g j
  | 0, _ => rfl
  | k + 1, z => by
    have z1 := z k (Nat.lt_succ_self k)
    have z2 := cyL_o (g := g) h k (fun k2 hk => z k2 (Nat.lt_succ_of_lt hk))
    unfold cyL
    split
    · rw [mlF_o z1.1 z1.2 h, z2]
    · exact z2
theorem cy_hd {f : Nat → Int64} {n d z k : Nat} (hz : z ≤ 20) : cyL (cpF f n d z) n k (hdC n 0) = lN z := by
  rw [cyL_o (by unfold hdC; omega) k (fun k2 _ => by unfold hdC ceC; omega)]
  unfold cpF
  rw [va_up_self]
  exact nI_l (by omega)
theorem cy_8 {f : Nat → Int64} {n d z k : Nat} : cyL (cpF f n d z) n k 8 = f 8 := by
  rw [cyL_o (by omega) k (fun k2 _ => by unfold ceC; omega), cpF_lo (by omega) (by omega)]
/-- the lines of a copy can be reckoned -/
def CyOK (f : Nat → Int64) (n d z : Nat) : Prop := ∀ k, k < z → cyL (cpF f n d z) n k (ceC n k + 4) = 1 → 1 ≤ k ∧ LnOK (mlA (cyL (cpF f n d z) n k) n k) n k
def mCpy (f : Nat → Int64) (n : Nat) (np : Nat → Nat) (i : Int32) : Int32 × Option (Nat → Int64) := if ¬ inM n i then (-2000000001, none) else if ¬ mRea f n np i.toNatClampNeg = 0 then (-2000000002, none) else (nI n, some (cyL (cpF f n i.toNatClampNeg (np i.toNatClampNeg)) n (np i.toNatClampNeg)))
theorem rea_0 {f : Nat → Int64} {n d : Nat} {np : Nat → Nat} (hn : n ≤ 6) (h : mRea f n np d = 0) : n ≤ 5 := by
  unfold mRea at h
  by_cases e : n = 6
  · exfalso
    split at h
    · exact absurd h (by decide)
    · split at h
      · exact absurd h (by decide)
      · first | exact absurd h (by decide) | (rw [if_pos e] at h; exact absurd h (by decide))
  · omega
/-! a call with a deep stack -/
theorem runS16 {p : Program} {l : Launch} {e : Env} {R : Room} {s : State} {m : MethodId} {args : Array Value} {below : List Frame} {meth : Method} {c : Code} {H : Heap} {locs : List Loc} {cells slots : Nat} {Ts ws : List Cond} {cc bytes : ByteArray} {nL maxL index n mc ms : Nat} {own : String} {y : MethodName} {ret : Option FieldType} {rm : Room} {Pc : Array Value → State → Prop} {Qc : Array Value → State → Outcome → State → Prop} {free : Addr → Prop} {As rest : List Value} {g : JFrame} (S : CallFix p m c cc nL s args Ts own) (hM : Met l y ws rm Pc Qc mc ms free) (cw : CallB R s args own index y bytes maxL ret ws rm mc ms n ∧ (Cond.static y).before args s = true) (h16 : 16 + (maxL + 11) + rm.locals ≤ R.locals) (hp : PreS s H Pc As)
    (hg : g.method = m) (hn : As.length = n) (hsize : g.locals.size = nL) (hstack : g.stack = As.reverse ++ rest) (hW : 2 * g.monitorRoom + (rest.map fun v => v.category).sum ≤ 16) (hdg : decode cc g.pc = .ok (.invokestatic index, 3)) (hf : cells + mc ≤ R.cells ∧ slots + ms ≤ R.slots) :
    va_Run p l e R s m args below meth c H locs cells slots mc ms g rest (Qc As.toArray) (free) := by
  have hK : Back l R p e below s args y 3 16 (PreOf R mc ms Pc) (PostOf Qc mc ms free) := by
    obtain ⟨hrc, hrs, hfr, hlo, hws, hcw, -, hini, -⟩ := cw.1
    exact back_of (bytes := bytes) (maxL := maxL) (ret := ret) hM hp.1 hrc hrs hfr h16 hws hcw (fun a' U hW => word_at hW (Or.inl (by first | rfl | simp [Cond.onTables, Cond.keeps, Cond.steady])) hini)
  obtain ⟨⟨-, -, -, -, -, -, hcode, hini, hy, hlen, hl⟩, hstt⟩ := cw
  obtain ⟨hx, hb, hml, ho, -⟩ := S
  intro T hT X
  obtain ⟨v, vm₁, ⟨U', l2, c2, s2⟩, hW₁, X', ⟨g', mk, t, L, e1, e2, hq, h1, hL, h2, h3⟩, st⟩ := callS X hx (bytes := bytes) (maxL := maxL) (ret := ret) ho hl hstt hini hcode hy hK hg (hsize.trans hml.symm) (argsL := As) (rest := rest) (fun sig h => hn.trans (hlen sig h)) hstack hW (by rw [hb]; exact hdg)
    (fun vm₁ hW₁ => ⟨hf.1, hf.2, hp.2 (T.setVm vm₁) hT hW₁⟩)
  dsimp only [Pt.U, Pt.locs, Pt.cells, Pt.slots] at X' e1 e2 h1 h2 h3 st
  subst h1; subst h2; subst h3
  exact ⟨v, (T.setVm vm₁).calling g' mk As.toArray, t, U', L, hT, X', hL, e1, e2, hq, st⟩
/-! the questions -/
theorem ok_w {x : Int32} {N : Nat} (hN : N < 4000) (h : okR x 0 (nI N)) : ∃ w, w ≤ N ∧ x = nI w ∧ (nI w).toNatClampNeg = w := by
  obtain ⟨w, zw, rfl⟩ := nI_of h.1
  refine ⟨w, ?_, rfl, nI_clamp zw⟩
  have h2 := i32_not_lt.mp h.2
  rw [nI_leI zw (by omega)] at h2; exact h2
theorem d2_3 {w : Nat} (h : w ≤ 3) : nI w / 2 = nI (w / 2) ∧ nI w - nI w / 2 * 2 = nI (w % 2) := by
  have z : w = 0 ∨ w = 1 ∨ w = 2 ∨ w = 3 := by omega
  rcases z with rfl | rfl | rfl | rfl <;> exact ⟨by decide, by decide⟩
abbrev isPt (n : Nat) (np : Nat → Nat) (i x : Int32) : Prop := (¬ i < 0 ∧ ¬ nI n ≤ i) ∧ ¬ x < 0 ∧ ¬ nI (np i.toNatClampNeg) ≤ x
theorem isPt_n {n : Nat} {np : Nat → Nat} {f : Nat → Int64} (hw : PWf f n np) {i x : Int32} (h : isPt n np i x) : ∃ d k, d < n ∧ k < np d ∧ np d ≤ 20 ∧ i = nI d ∧ x = nI k ∧ (nI d).toNatClampNeg = d ∧ (nI k).toNatClampNeg = k := by
  have z6 := hw.2.1
  obtain ⟨d, zd, rfl, zc⟩ := inM_n (by omega) h.1
  have z20 := (hw.2.2 d zd).2
  obtain ⟨k, zk, rfl⟩ := nI_of h.2.1
  have h2 := h.2.2
  rw [zc, nI_leI (by omega) zk] at h2
  exact ⟨d, k, zd, by omega, z20, rfl, rfl, zc, nI_clamp zk⟩
def mRat (f : Nat → Int64) (n : Nat) (i q : Int32) : Int32 := if inM n i ∧ okR q 0 1 then (f (hdC i.toNatClampNeg (2 + q.toNatClampNeg))).toInt32 else -2000000001
def mPI (f : Nat → Int64) (n : Nat) (np : Nat → Nat) (i x q : Int32) : Int64 := if isPt n np i x ∧ okR q 0 6 then f (ceC i.toNatClampNeg x.toNatClampNeg + q.toNatClampNeg) else -2000000001
def aoN (f : Nat → Int64) (d k ax : Nat) : Int64 := plN (f (hdC d (6 + 2 * ax))) (f (hdC d (6 + 2 * ax) + 1)) (f (hdC d (4 + ax)) * f (ceC (mRt f (d + 1) d) k + 2 * ax)) (f (hdC d 2)) (f (hdC d 3))
def aoD (f : Nat → Int64) (d ax : Nat) : Int64 := plD (f (hdC d (6 + 2 * ax) + 1)) (f (hdC d 3))
def mAO (f : Nat → Int64) (n : Nat) (np : Nat → Nat) (i x q : Int32) : Int64 := if isPt n np i x ∧ okR q 0 3 then (if q.toNatClampNeg % 2 = 0 then rdN (aoN f i.toNatClampNeg x.toNatClampNeg (q.toNatClampNeg / 2)) (aoD f i.toNatClampNeg (q.toNatClampNeg / 2)) else rdD (aoN f i.toNatClampNeg x.toNatClampNeg (q.toNatClampNeg / 2)) (aoD f i.toNatClampNeg (q.toNatClampNeg / 2))) else -2000000001
def mfN (f : Nat → Int64) (d b : Nat) : Int64 := rdN (f (hdC d 2) * f (hdC b 2 + 1)) (f (hdC d 2 + 1) * f (hdC b 2))
def mfD (f : Nat → Int64) (d b : Nat) : Int64 := rdD (f (hdC d 2) * f (hdC b 2 + 1)) (f (hdC d 2 + 1) * f (hdC b 2))
def mAF (f : Nat → Int64) (n : Nat) (i j : Int32) : Int32 := if inM n i ∧ inM n j then (if 20 < mfN f i.toNatClampNeg j.toNatClampNeg ∨ 20 < mfD f i.toNatClampNeg j.toNatClampNeg then -2000000004 else (100 * mfN f i.toNatClampNeg j.toNatClampNeg + mfD f i.toNatClampNeg j.toNatClampNeg).toInt32) else -2000000001
abbrev sm4 (f : Nat → Int64) (d b k : Nat) : Prop := f (ceC d k + 0) = f (ceC b k + 0) ∧ f (ceC d k + 1) = f (ceC b k + 1) ∧ f (ceC d k + 2) = f (ceC b k + 2) ∧ f (ceC d k + 3) = f (ceC b k + 3)
def mAlk (f : Nat → Int64) (d b : Nat) : Nat → Int32
  | 0 => 0
  | k + 1 => mAlk f d b k + (if sm4 f d b k then 1 else 0)
def mAl (f : Nat → Int64) (n : Nat) (np : Nat → Nat) (i j : Int32) : Int32 := if inM n i ∧ inM n j then mAlk f i.toNatClampNeg j.toNatClampNeg (min (np i.toNatClampNeg) (np j.toNatClampNeg)) else -2000000001
theorem mRt_le {f : Nat → Int64} {n : Nat} (hn6 : n ≤ 6) (hP : ParOK f n) : ∀ (w d : Nat), d < n → mRt f w d ≤ d
  | 0, d, _ => Nat.le_refl d
  | w + 1, d, hd => by
    unfold mRt
    rcases hP d hd with h | ⟨q, hq, h⟩
    · rw [if_pos h]; exact Nat.le_refl d
    · split
      · exact Nat.le_refl d
      · rw [h, nI_clamp (show q < 2 ^ 31 by omega)]
        exact Nat.le_trans (mRt_le hn6 hP w q (by omega)) (by omega)
theorem k_callSI16 {E : gE} {T : gT} {V : gV} {p : Program} {l : Launch} {e : Env} {R : Room} {s : State} {m : MethodId} {args : Array Value} {below : List Frame} {meth : Method} {c : Code} {own : String} {cc : ByteArray} {nL : Nat} {ret : Option FieldType} {k n : Nat} {Q : State → Prop} {L : List (Nat × Value)} {st : List Value} (pc q : Nat) (C : Cx E p s m args meth c own cc nL ret) {y : MethodName} {cc' : ByteArray} {maxL N ix : Nat} {ret' : Option FieldType} {f lo : Nat}  {Post : Int32 → gV → Prop} (As rest : List Value) (hd : decode cc pc = .ok (.invokestatic ix, 3)) (hq : pc + 3 = q) (hM : CtI E T l y (gw y cc' maxL ret') { frames := f, cells := 0, slots := 0, locals := lo } As V Post) (I : MI y cc' maxL ret' N) (hw : Cond.methodLink own ix y ∈ GW) (hstt : Cond.static y ∈ GW) (hn : As.length = N) (hst : st = As.reverse ++ rest) (hroom : f + 1 ≤ R.frames ∧ 16 + (maxL + 11) + lo ≤ R.locals) (hcat : (rest.map fun v => v.category).sum ≤ 16) (hk0 : k ≤ R.cells) (hn0 : n ≤ R.slots)
    (kk : ∀ (r : Int32) (V' : gV), Post r V' → KW E T V' p l e R s m args below meth c nL k n Q q L (.int r :: rest)) : KW E T V p l e R s m args below meth c nL k n Q pc L st := by
  subst hq
  intro H ls locs hR hS hl
  refine va_calli (runS16 (As := As) (rest := rest) ⟨C.x, C.b, C.ml, C.ow, C.ts⟩ hM ⟨C.cb I hw rfl rfl ⟨hroom.1, by have := hroom.2; show 8 + (maxL + 11) + lo ≤ R.locals; omega⟩, C.ts _ hstt⟩ hroom.2 (C.pre hR hS) rfl hn hl.1 hst (by show 2 * 0 + _ ≤ 16; omega) hd ⟨hk0, hn0⟩) hS (fun q _ h => h) (fun q h => h) (fun r u t H1 locs1 ht hvm hw hB hz1 hk1 hS1 => ?_)
  exact kk r u hw H1 ls locs1 (ht ▸ hB.1) hS1 hl

/-! reading -/
abbrev Rt : Type := Nat × Int32 × Int32 × (Nat → Int32)
def rat (P : Rt) : Nat := P.1
def rfr (P : Rt) : Int32 := P.2.1
def rnu (P : Rt) : Int32 := P.2.2.1
def rrd (P : Rt) : Nat → Int32 := P.2.2.2
def RQ (V : gV) (M zn : Nat) (cs : Nat → Int32) (P : Rt) : Prop := TQ V M zn cs ∧ V.1 M 8 = nI (rat P) ∧ rat P ≤ zn ∧ V.1 M 9 = rfr P ∧ V.1 M 10 = rnu P ∧ ∀ j, j < 60 → V.1 (M + 5) j = rrd P j
theorem RQ.t {V : gV} {M zn : Nat} {cs : Nat → Int32} {P : Rt} (g : RQ V M zn cs P) : TQ V M zn cs := g.1
theorem RQ.a {V : gV} {M zn : Nat} {cs : Nat → Int32} {P : Rt} (g : RQ V M zn cs P) : V.1 M 8 = nI (rat P) := g.2.1
theorem RQ.le {V : gV} {M zn : Nat} {cs : Nat → Int32} {P : Rt} (g : RQ V M zn cs P) : rat P ≤ zn := g.2.2.1
theorem RQ.fr {V : gV} {M zn : Nat} {cs : Nat → Int32} {P : Rt} (g : RQ V M zn cs P) : V.1 M 9 = rfr P := g.2.2.2.1
theorem RQ.nu {V : gV} {M zn : Nat} {cs : Nat → Int32} {P : Rt} (g : RQ V M zn cs P) : V.1 M 10 = rnu P := g.2.2.2.2.1
theorem RQ.rd {V : gV} {M zn : Nat} {cs : Nat → Int32} {P : Rt} (g : RQ V M zn cs P) : ∀ j, j < 60 → V.1 (M + 5) j = rrd P j := g.2.2.2.2.2
theorem RQ.z {V : gV} {M zn : Nat} {cs : Nat → Int32} {P : Rt} (g : RQ V M zn cs P) : zn ≤ 100 := g.1.2.1
/-- only what is read changed -/
def KtR (V V1 : gV) (M : Nat) : Prop := (∀ b, b ≠ M → b ≠ M + 5 → V1.1 b = V.1 b) ∧ (∀ j, j < 8 ∨ 10 < j → V1.1 M j = V.1 M j) ∧ V1.2 = V.2
theorem KtR.rf {V : gV} {M : Nat} : KtR V V M := ⟨fun _ _ _ => rfl, fun _ _ => rfl, rfl⟩
theorem KtR.trans {V V1 V2 : gV} {M : Nat} (h : KtR V V1 M) (h2 : KtR V1 V2 M) : KtR V V2 M := ⟨fun b x y => (h2.1 b x y).trans (h.1 b x y), fun j x => (h2.2.1 j x).trans (h.2.1 j x), h2.2.2.trans h.2.2⟩
theorem rw_M {V : gV} {M k j : Nat} {x : Int32} (h : j ≠ k) : (wI V M k x).1 M j = V.1 M j := by
  show (if M = M then upd (V.1 M) k x else _) j = _
  rw [if_pos rfl, pk_un h]
theorem rw_s {V : gV} {M k : Nat} {x : Int32} : (wI V M k x).1 M k = x := by
  show (if M = M then upd (V.1 M) k x else _) k = _
  rw [if_pos rfl, pk_us]
theorem rw_b {V : gV} {M k b : Nat} {x : Int32} (h : b ≠ M) : (wI V M k x).1 b = V.1 b := (wI_off b h).1
theorem KtR.w {V : gV} {M k : Nat} {x : Int32} (hk : 8 ≤ k ∧ k ≤ 10) : KtR V (wI V M k x) M := ⟨fun b hb _ => rw_b hb, fun j hj => rw_M (by omega), rfl⟩
theorem KtR.r {V : gV} {M k : Nat} {x : Int32} : KtR V (wI V (M + 5) k x) M := ⟨fun b _ hb => rw_b hb, fun j _ => by rw [rw_b (show M ≠ M + 5 by omega)], rfl⟩
theorem TQ.w {V V1 : gV} {M zn : Nat} {cs : Nat → Int32} (g : TQ V M zn cs) (k : KtR V V1 M) : TQ V1 M zn cs := ⟨by rw [k.2.1 5 (by omega)]; exact g.1, g.2.1, fun j hj => by rw [k.1 (M + 4) (by omega) (by omega)]; exact g.2.2 j hj⟩
def rAt (P : Rt) (a : Nat) : Rt := (a, P.2)
def rFr (P : Rt) (x : Int32) : Rt := (rat P, x, P.2.2)
def rNu (P : Rt) (x : Int32) : Rt := (rat P, rfr P, x, rrd P)
def rPu (P : Rt) (k : Nat) (x : Int32) : Rt := (rat P, rfr P, rnu P, va_up (rrd P) k x)
theorem RQ.wA {V : gV} {M zn a : Nat} {cs : Nat → Int32} {P : Rt} (g : RQ V M zn cs P) (ha : a ≤ zn) : RQ (wI V M 8 (nI a)) M zn cs (rAt P a) ∧ KtR V (wI V M 8 (nI a)) M := ⟨⟨g.t.w (KtR.w (by omega)), rw_s, ha, by rw [rw_M (by omega)]; exact g.fr, by rw [rw_M (by omega)]; exact g.nu, fun j hj => by rw [rw_b (show M + 5 ≠ M by omega)]; exact g.rd j hj⟩, KtR.w (by omega)⟩
theorem RQ.wF {V : gV} {M zn : Nat} {x : Int32} {cs : Nat → Int32} {P : Rt} (g : RQ V M zn cs P) : RQ (wI V M 9 x) M zn cs (rFr P x) ∧ KtR V (wI V M 9 x) M := ⟨⟨g.t.w (KtR.w (by omega)), by rw [rw_M (by omega)]; exact g.a, g.le, rw_s, by rw [rw_M (by omega)]; exact g.nu, fun j hj => by rw [rw_b (show M + 5 ≠ M by omega)]; exact g.rd j hj⟩, KtR.w (by omega)⟩
theorem RQ.wN {V : gV} {M zn : Nat} {x : Int32} {cs : Nat → Int32} {P : Rt} (g : RQ V M zn cs P) : RQ (wI V M 10 x) M zn cs (rNu P x) ∧ KtR V (wI V M 10 x) M := ⟨⟨g.t.w (KtR.w (by omega)), by rw [rw_M (by omega)]; exact g.a, g.le, by rw [rw_M (by omega)]; exact g.fr, rw_s, fun j hj => by rw [rw_b (show M + 5 ≠ M by omega)]; exact g.rd j hj⟩, KtR.w (by omega)⟩
theorem RQ.wP {V : gV} {M zn k : Nat} {x : Int32} {cs : Nat → Int32} {P : Rt} (g : RQ V M zn cs P) : RQ (wI V (M + 5) k x) M zn cs (rPu P k x) ∧ KtR V (wI V (M + 5) k x) M := by
  have z : (wI V (M + 5) k x).1 M = V.1 M := rw_b (by omega)
  refine ⟨⟨g.t.w KtR.r, by rw [z]; exact g.a, g.le, by rw [z]; exact g.fr, by rw [z]; exact g.nu, fun j hj => ?_⟩, KtR.r⟩
  by_cases ej : j = k
  · subst ej; rw [rw_s]; exact (va_up_self _ _ _).symm
  · rw [rw_M ej]; exact (g.rd j hj).trans (va_up_ne _ _ ej).symm
/-- the steps of a reading, threaded -/
theorem RK.t {V V1 V2 : gV} {M zn : Nat} {cs : Nat → Int32} {P : Rt} (h : KtR V V1 M) (h2 : RQ V2 M zn cs P ∧ KtR V1 V2 M) : RQ V2 M zn cs P ∧ KtR V V2 M := ⟨h2.1, h.trans h2.2⟩
def hereM (cs : Nat → Int32) (zn a : Nat) : Int32 := if a < zn then cs a else -1
def rFH (P : Rt) (zn : Nat) : Rt := rFr P (if rat P = zn then 2 else 1)
def digM (cs : Nat → Int32) (zn : Nat) : Nat → Nat → Int32 → Nat × Int32
  | 0, a, v => (a, v)
  | k + 1, a, v => if okR (hereM cs zn a) 48 57 then digM cs zn k (a + 1) (10 * v + hereM cs zn a - 48) else (a, v)
def rNum (cs : Nat → Int32) (zn : Nat) (P : Rt) : Rt × Bool :=
  if (digM cs zn 4 (rat P) 0).1 = rat P then (rFH (rNu P (digM cs zn 4 (rat P) 0).2) zn, false)
  else if ¬ (digM cs zn 4 (rat P) 0).2 ≤ 1000 then (rFr (rNu P (digM cs zn 4 (rat P) 0).2) 3, false)
  else (rAt (rNu P (digM cs zn 4 (rat P) 0).2) (digM cs zn 4 (rat P) 0).1, true)
def rPsh (P : Rt) (k : Nat) (x q : Int32) : Rt := rPu (rPu (rPu P (3 * k) x) (3 * k + 1) (rnu P)) (3 * k + 2) q
def rPt2 (cs : Nat → Int32) (zn k : Nat) (q x : Int32) (P : Rt) : Rt × Bool :=
  if hereM cs zn (rat P) = 44 then (if (rNum cs zn (rAt P (rat P + 1))).2 = true then (rPsh (rNum cs zn (rAt P (rat P + 1))).1 k x q, true) else ((rNum cs zn (rAt P (rat P + 1))).1, false)) else (rFH P zn, false)
def rPt (cs : Nat → Int32) (zn k : Nat) (q : Int32) (P : Rt) : Rt × Bool :=
  if k = 20 ∧ okR (hereM cs zn (rat P)) 48 57 then (rFr P 4, false)
  else if (rNum cs zn P).2 = true then rPt2 cs zn k q (rnu (rNum cs zn P).1) (rNum cs zn P).1 else ((rNum cs zn P).1, false)
def rLp (cs : Nat → Int32) (zn : Nat) : Nat → Nat → Int32 → Rt → Rt × Option Nat
  | 0, k, _, P => (P, none)
  | w + 1, k, q, P => if (rPt cs zn k q P).2 = true then
      (if hereM cs zn (rat (rPt cs zn k q P).1) = 45 ∨ hereM cs zn (rat (rPt cs zn k q P).1) = 32 then rLp cs zn w (k + 1) (if hereM cs zn (rat (rPt cs zn k q P).1) = 45 then 1 else 0) (rAt (rPt cs zn k q P).1 (rat (rPt cs zn k q P).1 + 1)) else ((rPt cs zn k q P).1, some (k + 1)))
      else ((rPt cs zn k q P).1, none)
def rFin (cs : Nat → Int32) (zn : Nat) (A : Rt × Option Nat) : Rt × Option Nat := match A.2 with
  | none => (A.1, none)
  | some k => if hereM cs zn (rat A.1) = 46 then (if rat A.1 + 1 = zn then (rAt A.1 (rat A.1 + 1), some k) else (rFH (rAt A.1 (rat A.1 + 1)) zn, none)) else (rFH A.1 zn, none)
def rTxt (cs : Nat → Int32) (zn : Nat) (P : Rt) : Rt × Option Nat := rFin cs zn (rLp cs zn 21 0 0 (rFr (rAt P 0) 0))
theorem nR {a b : Nat} (ha : a ≤ 200) (hb : b ≤ 200) : nI a ≤ nI b ↔ a ≤ b := nI_leI (by omega) (by omega)
theorem hereM_lt {cs : Nat → Int32} {zn a : Nat} {x : Int32} (h : hereM cs zn a = x) (hx : ¬ x = -1) : a < zn := by
  unfold hereM at h
  split at h
  · assumption
  · exact absurd h.symm hx
theorem hereM_dg {cs : Nat → Int32} {zn a : Nat} (h : okR (hereM cs zn a) 48 57) : a < zn := by
  unfold hereM at h
  split at h
  · assumption
  · exact absurd (by decide) h.1
theorem digM_le {cs : Nat → Int32} {zn : Nat} : ∀ (k a : Nat) (v : Int32), a ≤ zn → a ≤ (digM cs zn k a v).1 ∧ (digM cs zn k a v).1 ≤ zn
  | 0, a, v, h => ⟨Nat.le_refl a, h⟩
  | k + 1, a, v, h => by
    unfold digM
    split
    · rename_i z
      have := digM_le (cs := cs) k (a + 1) (10 * v + hereM cs zn a - 48) (hereM_dg z)
      omega
    · exact ⟨Nat.le_refl a, h⟩
theorem rNum_dg {cs : Nat → Int32} {zn : Nat} {P : Rt} (h : (rNum cs zn P).2 = true) : okR (hereM cs zn (rat P)) 48 57 := by
  by_cases g : okR (hereM cs zn (rat P)) 48 57
  · exact g
  · have zD : digM cs zn 4 (rat P) 0 = (rat P, 0) := if_neg g
    unfold rNum at h
    rw [zD, if_pos rfl] at h
    exact absurd (show false = true from h) (by decide)
theorem rPt_lt {cs : Nat → Int32} {zn k : Nat} {q : Int32} {P : Rt} (hk : k ≤ 20) (h : (rPt cs zn k q P).2 = true) : k < 20 := by
  unfold rPt at h
  by_cases e : k = 20
  · by_cases g : okR (hereM cs zn (rat P)) 48 57
    · rw [if_pos ⟨e, g⟩] at h; exact absurd (show false = true from h) (by decide)
    · rw [if_neg (fun zz => g zz.2), if_neg (fun zz => g (rNum_dg zz))] at h; exact absurd (show false = true from h) (by decide)
  · omega
def rCt (cs : Nat → Int32) (zn w k : Nat) (A : Rt) : Rt × Option Nat := if hereM cs zn (rat A) = 45 ∨ hereM cs zn (rat A) = 32 then rLp cs zn w (k + 1) (if hereM cs zn (rat A) = 45 then 1 else 0) (rAt A (rat A + 1)) else (A, some (k + 1))
theorem rLp_t {cs : Nat → Int32} {zn w k : Nat} {q : Int32} {P : Rt} (h : (rPt cs zn k q P).2 = true) : rLp cs zn (w + 1) k q P = rCt cs zn w k (rPt cs zn k q P).1 := if_pos h
theorem rLp_f {cs : Nat → Int32} {zn w k : Nat} {q : Int32} {P : Rt} (h : ¬ (rPt cs zn k q P).2 = true) : rLp cs zn (w + 1) k q P = ((rPt cs zn k q P).1, none) := if_neg h
theorem rLp_b {cs : Nat → Int32} {zn : Nat} : ∀ (w k : Nat) (q : Int32) (P : Rt) (j : Nat), k + w = 21 → (rLp cs zn w k q P).2 = some j → 1 ≤ j ∧ j ≤ 20
  | 0, k, q, P, j, _, h => by exact absurd h (by intro z; cases z)
  | w + 1, k, q, P, j, hk, h => by
    by_cases e : (rPt cs zn k q P).2 = true
    · rw [rLp_t e] at h
      have z := rPt_lt (by omega) e
      unfold rCt at h
      split at h
      · exact rLp_b w (k + 1) _ _ j (by omega) h
      · injection h with h; omega
    · rw [rLp_f e] at h
      exact absurd h (by intro z; cases z)
theorem rTxt_b {cs : Nat → Int32} {zn j : Nat} {P : Rt} (h : (rTxt cs zn P).2 = some j) : 1 ≤ j ∧ j ≤ 20 := by
  unfold rTxt rFin at h
  split at h
  · exact absurd h (by intro z; cases z)
  · rename_i k e
    split at h
    · split at h
      · injection h with h; subst h; exact rLp_b 21 0 0 _ _ rfl e
      · exact absurd h (by intro z; cases z)
    · exact absurd h (by intro z; cases z)
def txN : Option Nat → Int32
  | none => -1
  | some k => nI k
theorem txN_n {cs : Nat → Int32} {zn : Nat} {P : Rt} : txN (rTxt cs zn P).2 = -1 ↔ (rTxt cs zn P).2 = none := by
  constructor
  · intro h
    cases e : (rTxt cs zn P).2 with
    | none => rfl
    | some k =>
      rw [e] at h
      have z := rTxt_b e
      exfalso
      have z2 : (nI k).toInt = (-1 : Int32).toInt := by rw [show nI k = -1 from h]
      rw [nI_toInt (by omega)] at z2
      have z3 : (-1 : Int32).toInt = -1 := by decide
      omega
  · intro h; rw [h]; rfl
/-- the reading's fields before a reading: where it stands says nothing -/
def RQ0 (V : gV) (M zn : Nat) (cs : Nat → Int32) (P : Rt) : Prop := TQ V M zn cs ∧ V.1 M 9 = rfr P ∧ V.1 M 10 = rnu P ∧ ∀ j, j < 60 → V.1 (M + 5) j = rrd P j
theorem RQ.rw {V : gV} {M zn : Nat} {cs : Nat → Int32} {P : Rt} (g : RQ V M zn cs P) : RQ0 V M zn cs P := ⟨g.t, g.fr, g.nu, g.rd⟩
theorem RQ0.wA {V : gV} {M zn : Nat} {cs : Nat → Int32} {P : Rt} (g : RQ0 V M zn cs P) : RQ (wI V M 8 (nI 0)) M zn cs (rAt P 0) ∧ KtR V (wI V M 8 (nI 0)) M := ⟨⟨g.1.w (KtR.w (by omega)), rw_s, Nat.zero_le _, by rw [rw_M (by omega)]; exact g.2.1, by rw [rw_M (by omega)]; exact g.2.2.1, fun j hj => by rw [rw_b (show M + 5 ≠ M by omega)]; exact g.2.2.2 j hj⟩, KtR.w (by omega)⟩
def mFau (cs : Nat → Int32) (zn : Nat) (P : Rt) (q : Int32) : Int32 × Rt := if okR q 0 1 then (if (rTxt cs zn P).2 = none then (if q = 0 then nI (rat (rTxt cs zn P).1) else rfr (rTxt cs zn P).1) else -2000000004, (rTxt cs zn P).1) else (-2000000001, P)
def adL (g : Nat → Int64) (n : Nat) (rd : Nat → Int32) : Nat → Nat → Int64
  | 0 => g
  | k + 1 => adF (adL g n rd k) n k (rd (3 * k)) (rd (3 * k + 1)) (decide (rd (3 * k + 2) = 1 ∧ 0 < k))
theorem bgF_hd {f : Nat → Int64} {n : Nat} : bgF f n (hdC n 0) = 0 := by
  unfold bgF
  rw [va_up_ne _ _ (by unfold hdC; omega), va_up_ne _ _ (by unfold hdC; omega), va_up_ne _ _ (by unfold hdC; omega), va_up_ne _ _ (by unfold hdC; omega), va_up_ne _ _ (by unfold hdC; omega), va_up_ne _ _ (by unfold hdC; omega), va_up_ne _ _ (by unfold hdC; omega)]
  unfold bgL hdC
  rw [if_pos (by omega)]
theorem adL_n {f : Nat → Int64} {n : Nat} {rd : Nat → Int32} (hn : n ≤ 5) : ∀ k, k ≤ 20 → adL (bgF f n) n rd k (hdC n 0) = lN k
  | 0, _ => bgF_hd
  | k + 1, h => adF_n (adL_n hn k (by omega)) hn (by omega)
def mRd (f : Nat → Int64) (n : Nat) (cs : Nat → Int32) (zn : Nat) (P : Rt) : Int32 × Option (Nat → Int64) := match (rTxt cs zn P).2 with
  | none => (-2000000002, none)
  | some z => if n = 6 then (-2000000003, none) else (nI n, some (adL (bgF f n) n (rrd (rTxt cs zn P).1) z))
/-- the points read can be added -/
def RdOK (f : Nat → Int64) (n : Nat) (rd : Nat → Int32) (z : Nat) : Prop := ∀ k, k < z → 1 ≤ k → LnOK (adP (adL (bgF f n) n rd k) n k (rd (3 * k)) (rd (3 * k + 1)) 1) n k
def mDr (f : Nat → Int64) (d z : Nat) (w : Int32) : Int32 := if w = 0 then nI z else if w = 1 then (if (f (hdC d 1)).toInt32 = -1 then -2000000004 else (f (hdC d 1)).toInt32) else if w = 2 then nI (mRt f (d + 1) d) else if w = 3 then nI (mSt f (d + 1) d) else if w = 4 then (f (hdC d 4)).toInt32 else if w = 5 then (f (hdC d 5)).toInt32 else if w = 9 then obC f d z else if w = 10 then (mRF f d).toInt32 else if w = 11 then FP.f2i (FP.fmul (mRF f d) 1092616192) else mlR f d z w
/-! what a heap that grows keeps -/
