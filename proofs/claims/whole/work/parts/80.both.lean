/-! both sides' state -/
theorem AVp.same {V V' : gV} {a : Nat} {S : Dk} {h : Nat} {H : Nat → Dk} {r0 : Nat} {ρ : Nat → Nat} (g : AVp V a S h H r0 ρ) (k : Keep V V' a (a + 142)) : AVp V' a S h H r0 ρ := by
  have ea := k a (by omega) (by omega)
  have e28 := k (a + 28) (by omega) (by omega)
  have hkp : ∀ r, r < 5 → Keep V V' (dAd a r) (dAd a r + 27) := fun r hr b h1 h2 => by
    have := dAd_in (a := a) hr
    exact k b (by omega) (by omega)
  refine ⟨by rw [ea.2.2]; exact g.now, fun k hk4 => by rw [e28.2.2]; exact g.row k hk4, g.r5, g.p5, g.inj, by rw [ea.1]; exact g.st, g.le, ?_, fun k hk4 => ?_, fun k hk4 => ?_⟩
  · obtain ⟨π, hq⟩ := g.dk
    exact ⟨π, hq.same (hkp _ g.r5)⟩
  · obtain ⟨π, hq⟩ := g.ds k hk4
    exact ⟨π, hq.same (hkp _ (g.p5 k (by have := g.le; omega)).1)⟩
  · obtain ⟨π, hq⟩ := g.dr k hk4
    exact ⟨π, hq.same (hkp _ (g.p5 k hk4).1)⟩
theorem AVe.same {V V' : gV} {a : Nat} {S : Dk} {h : Nat} {H : Nat → Dk} (g : AVe V a S h H) (k : Keep V V' a (a + 142)) : AVe V' a S h H := by
  obtain ⟨r0, ρ, g⟩ := g
  exact ⟨r0, ρ, g.same k⟩
theorem AVe.le {V : gV} {a : Nat} {S : Dk} {h : Nat} {H : Nat → Dk} (g : AVe V a S h H) : h ≤ 4 := by
  obtain ⟨r0, ρ, g⟩ := g
  exact AVp.le g
theorem KpM.keep {V V1 : gV} {a : Nat} (k : KpM V V1 (a + 142)) : Keep V V1 a (a + 142) := fun b _ h2 => ⟨k.1 b (by omega), k.2.2.1 b (Or.inl h2), by rw [k.2.2.2]⟩
theorem KtM.keep {V V1 : gV} {a : Nat} (k : KtM V V1 (a + 142)) : Keep V V1 a (a + 142) := fun b _ h2 => ⟨k.1 b (by omega) (by omega), by rw [k.2.2], by rw [k.2.2]⟩
theorem KtR.keep {V V1 : gV} {a : Nat} (k : KtR V V1 (a + 142)) : Keep V V1 a (a + 142) := fun b _ h2 => ⟨k.1 b (by omega) (by omega), by rw [k.2.2], by rw [k.2.2]⟩
theorem TQ.kp {V V1 : gV} {M zn : Nat} {cs : Nat → Int32} (g : TQ V M zn cs) (k : KpM V V1 M) : TQ V1 M zn cs := ⟨by rw [k.2.1 5 (by omega)]; exact g.1, g.2.1, fun j hj => by rw [k.1 (M + 4) (by omega)]; exact g.2.2 j hj⟩
theorem PQ.kt {V V1 : gV} {M : Nat} {f : Nat → Int64} (g : PQ V M f) (k : V1.2 = V.2) : PQ V1 M f := fun j hj => by rw [k]; exact g j hj
theorem HQ.kt {V V1 : gV} {M h : Nat} {F : Nat → Nat → Int64} (g : HQ V M h F) (k : V1.2 = V.2) (k3 : V1.1 M 3 = V.1 M 3) : HQ V1 M h F := ⟨k3.trans g.1, g.2.1, fun i hi j hj => by rw [k]; exact g.2.2 i hi j hj⟩
def HR (h : Nat) (F : Nat → Nat → Int64) (H : Nat → Dk) : Prop := ∀ k, k < h → Rel (F k) (H k)
theorem HR.step {h : Nat} {F : Nat → Nat → Int64} {H : Nat → Dk} {f : Nat → Int64} {S : Dk} (g : HR h F H) (hl : h ≤ 4) (r : Rel f S) : HR (remN h) (keepH f h F) (remH S h H) := by
  intro k hk
  unfold remN at hk
  unfold keepH remH
  by_cases e : h < 4
  · rw [if_pos e] at hk
    rw [if_pos e, if_pos e]
    by_cases ek : k = h
    · subst ek; rw [va_up_self, va_up_self]; exact r
    · rw [va_up_ne _ _ ek, va_up_ne _ _ ek]; exact g k (by omega)
  · rw [if_neg e] at hk
    rw [if_neg e, if_neg e]
    by_cases ek : k = 3
    · subst ek; rw [va_up_self, va_up_self]; exact r
    · rw [va_up_ne _ _ ek, va_up_ne _ _ ek]; exact g (k + 1) (by omega)
def GSx (V : gV) (a : Nat) (S : Dk) (h : Nat) (H : Nat → Dk) (f : Nat → Int64) (F : Nat → Nat → Int64) (cs : Nat → Int32) (zn : Nat) : Prop := AVe V a S h H ∧ TC V (a + 29) cs zn ∧ PQ V (a + 142) f ∧ HQ V (a + 142) h F ∧ TQ V (a + 142) zn cs ∧ Rel f S ∧ HR h F H
def GS (V : gV) (a : Nat) : Prop := ∃ S h H f F cs zn, GSx V a S h H f F cs zn
section GSS
variable {V V1 V2 : gV} {a : Nat} {S : Dk} {h : Nat} {H : Nat → Dk} {f : Nat → Int64} {F : Nat → Nat → Int64} {cs : Nat → Int32} {zn : Nat}
theorem GSx.of (g1 : AVe V a S h H) (g2 : TC V (a + 29) cs zn) (g3 : PQ V (a + 142) f) (g4 : HQ V (a + 142) h F) (g5 : TQ V (a + 142) zn cs) (g6 : Rel f S) (g7 : HR h F H) : GS V a := ⟨S, h, H, f, F, cs, zn, g1, g2, g3, g4, g5, g6, g7⟩
theorem off_PQ (g : PQ V (a + 142) f) (o : Off V V1 a (a + 142)) : PQ V1 (a + 142) f := fun j hj => by rw [(o (a + 142 + 1) (by omega)).2.1]; exact g j hj
theorem off_HQ (g : HQ V (a + 142) h F) (o : Off V V1 a (a + 142)) : HQ V1 (a + 142) h F := ⟨by rw [(o (a + 142) (by omega)).1]; exact g.1, g.2.1, fun k hk j hj => by rw [(o (a + 142 + 3) (by omega)).2.1]; exact g.2.2 k hk j hj⟩
theorem off_TQ (g : TQ V (a + 142) zn cs) (o : Off V V1 a (a + 142)) : TQ V1 (a + 142) zn cs := ⟨by rw [(o (a + 142) (by omega)).1]; exact g.1, g.2.1, fun j hj => by rw [(o (a + 142 + 4) (by omega)).1]; exact g.2.2 j hj⟩
theorem TC.kp (g : TC V (a + 29) cs zn) (k : Keep V V1 a (a + 142)) : TC V1 (a + 29) cs zn := g.same (fun b h1 h2 => k b (by omega) (by omega))
/-- a call that keeps or changes the state on both sides -/
theorem st_ra {r1 r2 : Int32} {c : Int32 × Option Dk} {m : Int32 × Option (Nat → Int64)} (g : GSx V a S h H f F cs zn) (hr : m.1 = c.1 ∧ RelA c.2 m.2) (p1 : r1 = c.1 ∧ After V V1 a S h H c.2) (p2 : r2 = m.1 ∧ AfM V1 V2 (a + 142) f h F m.2) : r1 = r2 ∧ GS V2 a := by
  obtain ⟨g1, g2, g3, g4, g5, g6, g7⟩ := g
  obtain ⟨c1, c2⟩ := c
  obtain ⟨m1, m2⟩ := m
  obtain ⟨e1, a1, k1, o1⟩ := p1
  obtain ⟨e2, a2, k2⟩ := p2
  have y2 := k2.keep
  have t2 : TC V2 (a + 29) cs zn := (g2.same k1).kp y2
  have q2 := (off_TQ g5 o1).kp k2
  refine ⟨(e1.trans hr.1.symm).trans e2.symm, ?_⟩
  cases c2 with
  | none =>
    cases m2 with
    | none => exact GSx.of (AVe.same a1 y2) t2 a2.1 a2.2 q2 g6 g7
    | some _ => exact absurd hr.2 id
  | some S' =>
    cases m2 with
    | none => exact absurd hr.2 id
    | some f' => exact GSx.of (AVe.same a1 y2) t2 a2.1 a2.2 q2 hr.2 (g7.step g1.le g6)
/-- a call that changes nothing -/
theorem st_pu {α : Type} {r1 r2 c m : α} (g : GSx V a S h H f F cs zn) (hr : m = c) (p1 : V1 = V ∧ r1 = c) (p2 : V2 = V1 ∧ r2 = m) : r1 = r2 ∧ GS V2 a := by
  obtain ⟨rfl, rfl⟩ := p1
  obtain ⟨rfl, rfl⟩ := p2
  exact ⟨hr.symm, _, _, _, _, _, _, _, g⟩
theorem st_pg {α : Type} {r1 r2 c m : α} (g : GSx V a S h H f F cs zn) (hr : m = c) (p1 : V1 = V ∧ r1 = c) (p2 : Pg V1 V2 (a + 142) f ∧ r2 = m) : r1 = r2 ∧ GS V2 a := by
  obtain ⟨rfl, rfl⟩ := p1
  obtain ⟨k, rfl⟩ := p2
  obtain ⟨g1, g2, g3, g4, g5, g6, g7⟩ := g
  exact ⟨hr.symm, GSx.of (g1.same k.kp.keep) (g2.kp k.kp.keep) k.2.2.2 (g4.pg k) (g5.kp k.kp) g6 g7⟩
theorem st_why {r1 r2 c m : Int32} (g : GSx V a S h H f F cs zn) (hr : m = c) (p1 : r1 = c ∧ After V V1 a S h H none) (p2 : r2 = m ∧ PQ V2 (a + 142) f ∧ HQ V2 (a + 142) h F ∧ KpM V1 V2 (a + 142)) : r1 = r2 ∧ GS V2 a := by
  obtain ⟨g1, g2, g3, g4, g5, g6, g7⟩ := g
  obtain ⟨e1, a1, k1, o1⟩ := p1
  obtain ⟨e2, a2, a3, k2⟩ := p2
  exact ⟨(e1.trans hr.symm).trans e2.symm, GSx.of (AVe.same a1 k2.keep) ((g2.same k1).kp k2.keep) a2 a3 ((off_TQ g5 o1).kp k2) g6 g7⟩
theorem st_undo {r1 r2 : Int32} (g : GSx V a S h H f F cs zn) (p1 : (h = 0 ∧ r1 = -2000000002 ∧ V1 = V) ∨ (0 < h ∧ r1 = nI (h - 1) ∧ AVe V1 a (H (h - 1)) (h - 1) H ∧ Keep V V1 (a + 29) (a + 34) ∧ Off V V1 a (a + 142))) (p2 : r2 = (if h = 0 then -2000000002 else nI (h - 1)) ∧ PQ V2 (a + 142) (if h = 0 then f else F (h - 1)) ∧ HQ V2 (a + 142) (h - 1) F ∧ KpM V1 V2 (a + 142)) : r1 = r2 ∧ GS V2 a := by
  obtain ⟨g1, g2, g3, g4, g5, g6, g7⟩ := g
  obtain ⟨e2, a2, a3, k2⟩ := p2
  rcases p1 with ⟨h0, e1, rfl⟩ | ⟨h0, e1, a1, k1, o1⟩
  · subst h0
    exact ⟨e1.trans e2.symm, GSx.of (g1.same k2.keep) (g2.kp k2.keep) a2 a3 (g5.kp k2) g6 g7⟩
  · rw [if_neg (by omega)] at e2 a2
    exact ⟨e1.trans e2.symm, GSx.of (AVe.same a1 k2.keep) ((g2.same k1).kp k2.keep) a2 a3 ((off_TQ g5 o1).kp k2) (g7 (h - 1) (by omega)) (fun k hk => g7 k (by omega))⟩
theorem st_text {cs' : Nat → Int32} {zn' : Nat} (g : GSx V a S h H f F cs zn) (p1 : AfterT V V1 a S h H none cs' zn') (t2 : TQ V2 (a + 142) zn' cs') (k2 : KtM V1 V2 (a + 142)) : GS V2 a := by
  obtain ⟨g1, g2, g3, g4, g5, g6, g7⟩ := g
  obtain ⟨a1, c1, o1⟩ := p1
  exact GSx.of (AVe.same a1 k2.keep) (c1.kp k2.keep) ((off_PQ g3 o1).kt k2.2.2) ((off_HQ g4 o1).kt k2.2.2 (k2.2.1 3 (by omega))) t2 g6 g7
theorem st_type {r1 r2 x : Int32} (g : GSx V a S h H f F cs zn) (p1 : r1 = cTyp zn x ∧ AfterT V V1 a S h H none (if okR x 32 126 ∧ zn < 100 then va_up cs zn x else cs) (if okR x 32 126 ∧ zn < 100 then zn + 1 else zn)) (p2 : r2 = (mTyp zn cs x).1 ∧ (match (mTyp zn cs x).2 with | none => TQ V2 (a + 142) zn cs | some z => TQ V2 (a + 142) z.1 z.2) ∧ KtM V1 V2 (a + 142)) : r1 = r2 ∧ GS V2 a := by
  obtain ⟨e1, a1⟩ := p1
  obtain ⟨e2, t2, k2⟩ := p2
  have hz := g.2.1.2.1
  by_cases ok : okR x 32 126
  · by_cases e : zn = 100
    · have em : mTyp zn cs x = (-2000000003, none) := by unfold mTyp; rw [if_neg (fun z => z ok), if_pos e]
      have ec : cTyp zn x = -2000000003 := by unfold cTyp; rw [if_pos ok, if_neg (by omega)]
      rw [em] at e2 t2
      rw [if_neg (fun z => by omega), if_neg (fun z => by omega)] at a1
      exact ⟨(e1.trans ec).trans e2.symm, st_text g a1 t2 k2⟩
    · have em : mTyp zn cs x = (nI (zn + 1), some (zn + 1, va_up cs zn x)) := by unfold mTyp; rw [if_neg (fun z => z ok), if_neg e]
      have ec : cTyp zn x = nI (zn + 1) := by unfold cTyp; rw [if_pos ok, if_pos (by omega)]
      rw [em] at e2 t2
      rw [if_pos ⟨ok, by omega⟩, if_pos ⟨ok, by omega⟩] at a1
      exact ⟨(e1.trans ec).trans e2.symm, st_text g a1 t2 k2⟩
  · have em : mTyp zn cs x = (-2000000001, none) := by unfold mTyp; rw [if_pos ok]
    have ec : cTyp zn x = -2000000001 := by unfold cTyp; rw [if_neg ok]
    rw [em] at e2 t2
    rw [if_neg (fun z => ok z.1), if_neg (fun z => ok z.1)] at a1
    exact ⟨(e1.trans ec).trans e2.symm, st_text g a1 t2 k2⟩
theorem st_clear {r1 r2 : Int32} (g : GSx V a S h H f F cs zn) (p1 : r1 = nI zn ∧ AfterT V V1 a S h H none cs 0) (p2 : r2 = nI zn ∧ TQ V2 (a + 142) 0 cs ∧ KtM V1 V2 (a + 142)) : r1 = r2 ∧ GS V2 a := ⟨p1.1.trans p2.1.symm, st_text g p1.2 p2.2.1 p2.2.2⟩
theorem st_fault {r1 r2 c m : Int32} {P : Rt} (g : GSx V a S h H f F cs zn) (hr : m = c) (p1 : r1 = c ∧ AfterT V V1 a S h H none cs zn) (p2 : r2 = m ∧ RQ0 V2 (a + 142) zn cs P ∧ KtR V1 V2 (a + 142)) : r1 = r2 ∧ GS V2 a := by
  obtain ⟨g1, g2, g3, g4, g5, g6, g7⟩ := g
  obtain ⟨e1, a1, c1, o1⟩ := p1
  obtain ⟨e2, t2, k2⟩ := p2
  exact ⟨(e1.trans hr.symm).trans e2.symm, GSx.of (AVe.same a1 k2.keep) (c1.kp k2.keep) ((off_PQ g3 o1).kt k2.2.2) ((off_HQ g4 o1).kt k2.2.2 (k2.2.1 3 (by omega))) t2.1 g6 g7⟩
theorem st_read {r1 r2 : Int32} {c : Int32 × Option Dk} {m : Int32 × Option (Nat → Int64)} {P : Rt} (g : GSx V a S h H f F cs zn) (hr : m.1 = c.1 ∧ RelA c.2 m.2) (p1 : r1 = c.1 ∧ AfterT V V1 a S h H c.2 cs zn) (p2 : r2 = m.1 ∧ ∃ V3 : gV, RQ V3 (a + 142) zn cs P ∧ KtR V1 V3 (a + 142) ∧ AfM V3 V2 (a + 142) f h F m.2) : r1 = r2 ∧ GS V2 a := by
  obtain ⟨g1, g2, g3, g4, g5, g6, g7⟩ := g
  obtain ⟨c1, c2⟩ := c
  obtain ⟨m1, m2⟩ := m
  obtain ⟨e1, a1, b1, o1⟩ := p1
  obtain ⟨e2, V3, q3, k3, a2, k2⟩ := p2
  have y2 : Keep V1 V2 a (a + 142) := k3.keep.trans k2.keep
  have t2 : TC V2 (a + 29) cs zn := b1.kp y2
  have q2 := q3.t.kp k2
  refine ⟨(e1.trans hr.1.symm).trans e2.symm, ?_⟩
  cases c2 with
  | none =>
    cases m2 with
    | none => exact GSx.of (AVe.same a1 y2) t2 a2.1 a2.2 q2 g6 g7
    | some _ => exact absurd hr.2 id
  | some S' =>
    cases m2 with
    | none => exact absurd hr.2 id
    | some f' => exact GSx.of (AVe.same a1 y2) t2 a2.1 a2.2 q2 hr.2 (g7.step g1.le g6)
/-- the reading's fields, as they stand -/
theorem TQ.r0 {M : Nat} (g : TQ V M zn cs) : RQ0 V M zn cs (0, V.1 M 9, V.1 M 10, V.1 (M + 5)) := ⟨g, rfl, rfl, fun _ _ => rfl⟩
end GSS
theorem rel0 : Rel f0 S0 := by
  refine ⟨⟨⟨rfl, rfl, rfl, rfl⟩, ⟨rfl, rfl, rfl, rfl, rfl⟩, rfl, rfl, ⟨rfl, rfl, rfl⟩, rfl⟩, ⟨⟨?_, ?_, ?_, ?_⟩, ⟨?_, ?_, ?_, ?_, ?_⟩, ?_, ?_⟩, Nat.zero_le _, fun j hj => absurd hj (Nat.not_lt_zero j), fun _ => 0, fun j hj => absurd hj (Nat.not_lt_zero j)⟩
  all_goals (constructor <;> decide)
