/-! the arm: the desk now, four desks of the past, the text -/
def dAd (a r : Nat) : Nat := if r = 0 then a + 1 else a + 7 + 27 * r
theorem dAd_apart {a r q : Nat} (h : r ≠ q) : dAd a r + 27 ≤ dAd a q ∨ dAd a q + 27 ≤ dAd a r := by
  unfold dAd; split <;> split <;> omega
theorem dAd_in {a r : Nat} (h : r < 5) : a + 1 ≤ dAd a r ∧ dAd a r + 27 ≤ a + 142 ∧ (dAd a r + 27 ≤ a + 28 ∨ a + 34 ≤ dAd a r) := by
  unfold dAd; split <;> omega
def IsAll (T : gT) (a : Nat) : Prop := IsArm T a ∧ ∀ r, r < 5 → IsDsk T (dAd a r)
theorem IsAll.a {T : gT} {a : Nat} (h : IsAll T a) : IsArm T a := h.1
def AVp (V : gV) (a : Nat) (S : Dk) (h : Nat) (H : Nat → Dk) (r0 : Nat) (ρ : Nat → Nat) : Prop := V.2.2 a 0 = some (dAd a r0) ∧ (∀ k, k < 4 → V.2.2 (a + 28) k = some (dAd a (ρ k))) ∧ r0 < 5 ∧ (∀ k, k < 4 → ρ k < 5 ∧ ρ k ≠ r0) ∧ (∀ i j, i < 4 → j < 4 → ρ i = ρ j → i = j) ∧ V.1 a 2 = nI h ∧ h ≤ 4 ∧ (∃ π, DK V (dAd a r0) S π) ∧ (∀ k, k < h → ∃ π, DK V (dAd a (ρ k)) (H k) π) ∧ ∀ k, k < 4 → ∃ π, DKr V (dAd a (ρ k)) π
section AVS
variable {V : gV} {a : Nat} {S : Dk} {h : Nat} {H : Nat → Dk} {r0 : Nat} {ρ : Nat → Nat}
theorem AVp.now (g : AVp V a S h H r0 ρ) : V.2.2 a 0 = some (dAd a r0) := g.1
theorem AVp.row (g : AVp V a S h H r0 ρ) (k : Nat) (hk : k < 4) : V.2.2 (a + 28) k = some (dAd a (ρ k)) := g.2.1 k hk
theorem AVp.r5 (g : AVp V a S h H r0 ρ) : r0 < 5 := g.2.2.1
theorem AVp.p5 (g : AVp V a S h H r0 ρ) (k : Nat) (hk : k < 4) : ρ k < 5 ∧ ρ k ≠ r0 := g.2.2.2.1 k hk
theorem AVp.inj (g : AVp V a S h H r0 ρ) (i j : Nat) (hi : i < 4) (hj : j < 4) (hij : ρ i = ρ j) : i = j := g.2.2.2.2.1 i j hi hj hij
theorem AVp.st (g : AVp V a S h H r0 ρ) : V.1 a 2 = nI h := g.2.2.2.2.2.1
theorem AVp.le (g : AVp V a S h H r0 ρ) : h ≤ 4 := g.2.2.2.2.2.2.1
theorem AVp.dk (g : AVp V a S h H r0 ρ) : ∃ π, DK V (dAd a r0) S π := g.2.2.2.2.2.2.2.1
theorem AVp.ds (g : AVp V a S h H r0 ρ) (k : Nat) (hk : k < h) : ∃ π, DK V (dAd a (ρ k)) (H k) π := g.2.2.2.2.2.2.2.2.1 k hk
theorem AVp.dr (g : AVp V a S h H r0 ρ) (k : Nat) (hk : k < 4) : ∃ π, DKr V (dAd a (ρ k)) π := g.2.2.2.2.2.2.2.2.2 k hk
end AVS
def Keep (V V' : gV) (lo hi : Nat) : Prop := ∀ b : Nat, lo ≤ b → b < hi → V'.1 b = V.1 b ∧ V'.2.1 b = V.2.1 b ∧ V'.2.2 b = V.2.2 b
theorem Off.keep {V V' : gV} {lo hi l2 h2 : Nat} (h : Off V V' lo hi) (ha : h2 ≤ lo ∨ hi ≤ l2) : Keep V V' l2 h2 := fun b h1 h3 => h b (by omega)
theorem Keep.trans {V V' V'' : gV} {lo hi : Nat} (h : Keep V V' lo hi) (h2 : Keep V' V'' lo hi) : Keep V V'' lo hi := fun b x y => ⟨(h2 b x y).1.trans (h b x y).1, (h2 b x y).2.1.trans (h b x y).2.1, (h2 b x y).2.2.trans (h b x y).2.2⟩
theorem Keep.rf {V : gV} {lo hi : Nat} : Keep V V lo hi := fun _ _ _ => ⟨rfl, rfl, rfl⟩
theorem DV.same {V V' : gV} {a lo hi : Nat} {d : Dr} (hd : DV V a d) (h : Keep V V' lo hi) (h1 : lo ≤ a) (h2 : a + 4 ≤ hi) : DV V' a d := by
  obtain ⟨e1, e2, -⟩ := h a (by omega) (by omega)
  obtain ⟨-, g2, -⟩ := h (a + 1) (by omega) (by omega)
  obtain ⟨-, k2, -⟩ := h (a + 2) (by omega) (by omega)
  obtain ⟨l1, -, -⟩ := h (a + 3) (by omega) (by omega)
  unfold DV
  rw [e1, e2, g2, k2, l1]
  exact hd
theorem DKr.same {V V' : gV} {D : Nat} {π : Nat → Nat} (hr : DKr V D π) (h : Keep V V' D (D + 27)) : DKr V' D π := by
  have e2 := (h (D + 2) (by omega) (by omega)).2.2
  exact ⟨fun j hj => by rw [e2]; exact hr.1 j hj, hr.2⟩
theorem DK.same {V V' : gV} {D : Nat} {S : Dk} {π : Nat → Nat} (hk : DK V D S π) (h : Keep V V' D (D + 27)) : DK V' D S π := by
  obtain ⟨h1, h2, h3, h4, h5, h6, h7⟩ := hk
  have e0 := h D (by omega) (by omega)
  have e1 := h (D + 1) (by omega) (by omega)
  have e2 := h (D + 2) (by omega) (by omega)
  refine ⟨fun j a b => by rw [e0.1]; exact h1 j a b, fun j a => by rw [e1.1]; exact h2 j a, by rw [e0.1]; exact h3, h4, fun j a => by rw [e2.2.2]; exact h5 j a, h6, fun i a => ?_⟩
  have hp := (h5 i (by omega)).1
  exact ⟨(h7 i a).1.same h (by omega) (by omega), (h7 i a).2⟩
theorem TX.same {V V' : gV} {t n : Nat} {cs : Nat → Int32} {P : Pt} (ht : TX V t cs n P) (h : Keep V V' t (t + 5)) : TX V' t cs n P := by
  have e0 := (h t (by omega) (by omega)).1
  have e1 := (h (t + 1) (by omega) (by omega)).1
  have e2 := (h (t + 2) (by omega) (by omega)).1
  have e3 := (h (t + 3) (by omega) (by omega)).1
  have e4 := (h (t + 4) (by omega) (by omega)).1
  unfold TX TC
  rw [e0, e1, e2, e3, e4]
  exact ht
/-- the desk now changed, nothing else -/
theorem AVp.upd {V V' : gV} {a : Nat} {S S' : Dk} {h : Nat} {H : Nat → Dk} {r0 : Nat} {ρ π' : Nat → Nat} (g : AVp V a S h H r0 ρ) (ho : Off V V' (dAd a r0) (dAd a r0 + 27)) (hk : DK V' (dAd a r0) S' π') : AVp V' a S' h H r0 ρ := by
  have hin := dAd_in (a := a) g.r5
  have ea := ho a (by omega)
  have e28 := ho (a + 28) (by omega)
  have hkp : ∀ k, k < 4 → Keep V V' (dAd a (ρ k)) (dAd a (ρ k) + 27) := fun k hk4 => ho.keep (by have := dAd_apart (a := a) (g.p5 k hk4).2; omega)
  refine ⟨by rw [ea.2.2]; exact g.now, fun k hk4 => by rw [e28.2.2]; exact g.row k hk4, g.r5, g.p5, g.inj, by rw [ea.1]; exact g.st, g.le, ⟨π', hk⟩, fun k hk4 => ?_, fun k hk4 => ?_⟩
  · obtain ⟨π, hq⟩ := g.ds k hk4
    exact ⟨π, hq.same (hkp k (by have := g.le; omega))⟩
  · obtain ⟨π, hq⟩ := g.dr k hk4
    exact ⟨π, hq.same (hkp k hk4)⟩
def remN (h : Nat) : Nat := if h < 4 then h + 1 else 4
def remH (S : Dk) (h : Nat) (H : Nat → Dk) : Nat → Dk := if h < 4 then va_up H h S else va_up (fun k => H (k + 1)) 3 S
def RWa (V V1 : gV) (a : Nat) (ρ : Nat → Nat) (i : Nat) : Prop := V1.1 = V.1 ∧ V1.2.1 = V.2.1 ∧ (∀ b, b ≠ a + 28 → V1.2.2 b = V.2.2 b) ∧ ∀ k, k < 4 → V1.2.2 (a + 28) k = some (dAd a (ρ (if k + 1 < i then k + 1 else k)))
theorem RWa.step {V V1 : gV} {a : Nat} {ρ : Nat → Nat} {i : Nat} (h : RWa V V1 a ρ i) (hi : 1 ≤ i) : RWa V (wR V1 (a + 28) (i - 1) (some (dAd a (ρ i)))) a ρ (i + 1) := by
  obtain ⟨h1, h2, h3, h4⟩ := h
  refine ⟨h1, h2, fun b hb => (wR_off b hb).2.2.trans (h3 b hb), fun k hk => ?_⟩
  by_cases e : k = i - 1
  · subst e
    rw [if_pos (by omega)]
    simp [wR, va_up, show i - 1 + 1 = i by omega]
  · have h5 := h4 k hk
    simp only [wR, va_up, if_true, e, if_false]
    rw [h5]
    by_cases c : k + 1 < i
    · rw [if_pos c, if_pos (by omega)]
    · rw [if_neg c, if_neg (by omega)]
def rotP (ρ : Nat → Nat) (k : Nat) : Nat := if k < 3 then ρ (k + 1) else ρ 0
theorem RWa.fin {V V1 : gV} {a : Nat} {S : Dk} {H : Nat → Dk} {r0 : Nat} {ρ : Nat → Nat} (g : AVp V a S 4 H r0 ρ) (h : RWa V V1 a ρ 4) : AVp (wI (wR V1 (a + 28) 3 (some (dAd a (ρ 0)))) a 2 3) a S 3 (fun k => H (k + 1)) r0 (rotP ρ) ∧ Off V (wI (wR V1 (a + 28) 3 (some (dAd a (ρ 0)))) a 2 3) a (a + 1) = Off V (wI (wR V1 (a + 28) 3 (some (dAd a (ρ 0)))) a 2 3) a (a + 1) := by
  refine ⟨?_, rfl⟩
  obtain ⟨h1, h2, h3, h4⟩ := h
  have e1 : ∀ b, b ≠ a → (wI (wR V1 (a + 28) 3 (some (dAd a (ρ 0)))) a 2 3).1 b = V.1 b := fun b hb => by rw [(wI_off b hb).1]; show V1.1 b = V.1 b; rw [h1]
  have e3 : ∀ b, b ≠ a + 28 → (wI (wR V1 (a + 28) 3 (some (dAd a (ρ 0)))) a 2 3).2.2 b = V.2.2 b := fun b hb => ((wR_off b hb).2.2).trans (h3 b hb)
  have hkp : ∀ r, r < 5 → Keep V (wI (wR V1 (a + 28) 3 (some (dAd a (ρ 0)))) a 2 3) (dAd a r) (dAd a r + 27) := fun r hr b hb1 hb2 => by
    have := dAd_in (a := a) hr
    exact ⟨e1 b (by omega), by show V1.2.1 b = V.2.1 b; rw [h2], e3 b (by omega)⟩
  have hrot : ∀ k, k < 4 → ∃ k', k' < 4 ∧ rotP ρ k = ρ k' := fun k hk => by
    unfold rotP; split
    · exact ⟨k + 1, by omega, rfl⟩
    · exact ⟨0, by omega, rfl⟩
  refine ⟨by rw [e3 a (by omega)]; exact g.now, fun k hk => ?_, g.r5, fun k hk => ?_, fun i j hi hj hij => ?_, by simp [wI, upd]; rfl, by omega, ?_, fun k hk => ?_, fun k hk => ?_⟩
  · show (if a + 28 = a + 28 then va_up (V1.2.2 (a + 28)) 3 _ else _) k = _
    rw [if_pos rfl]
    unfold rotP
    by_cases c : k = 3
    · subst c; rw [va_up_self, if_neg (by omega)]
    · rw [va_up_ne _ _ c, h4 k hk, if_pos (by omega), if_pos (by omega)]
  · obtain ⟨k', hk', ek⟩ := hrot k hk
    rw [ek]; exact g.p5 k' hk'
  · have key : ∀ x y, x < 4 → y < 4 → ρ x = ρ y → x = y := g.inj
    unfold rotP at hij
    split at hij <;> split at hij
    · have := key _ _ (by omega) (by omega) hij; omega
    · have := key _ _ (by omega) (by omega) hij; omega
    · have := key _ _ (by omega) (by omega) hij; omega
    · omega
  · obtain ⟨π, hq⟩ := g.dk
    exact ⟨π, hq.same (hkp r0 g.r5)⟩
  · obtain ⟨π, hq⟩ := g.ds (k + 1) (by omega)
    refine ⟨π, ?_⟩
    have ek : rotP ρ k = ρ (k + 1) := by unfold rotP; rw [if_pos hk]
    rw [ek]
    exact hq.same (hkp _ (g.p5 (k + 1) (by omega)).1)
  · obtain ⟨k', hk', ek⟩ := hrot k hk
    rw [ek]
    obtain ⟨π, hq⟩ := g.dr k' hk'
    exact ⟨π, hq.same (hkp _ (g.p5 k' hk').1)⟩
theorem RWa.off {V V1 : gV} {a : Nat} {ρ : Nat → Nat} {i : Nat} {x : Option Nat} (h : RWa V V1 a ρ i) : (∀ b, b ≠ a → b ≠ a + 28 → (wI (wR V1 (a + 28) 3 x) a 2 3).1 b = V.1 b ∧ (wI (wR V1 (a + 28) 3 x) a 2 3).2.1 b = V.2.1 b ∧ (wI (wR V1 (a + 28) 3 x) a 2 3).2.2 b = V.2.2 b) := by
  intro b hb hb2
  exact ⟨by rw [(wI_off b hb).1]; show V1.1 b = V.1 b; rw [h.1], by show V1.2.1 b = V.2.1 b; rw [h.2.1], ((wR_off b hb2).2.2).trans (h.2.2.1 b hb2)⟩
set_option maxHeartbeats 4000000 in
set_option maxRecDepth 100000 in
theorem ct_X3_dropOldest {E : gE} {T : gT} {l : Launch} {V : gV} {a : Nat} {S : Dk} {H : Nat → Dk} {r0 : Nat} {ρ : Nat → Nat} (hA : IsAll T a) (g : AVp V a S 4 H r0 ρ) : CtV E T l yX3_dropOldest (gw yX3_dropOldest cX3_dropOldest 3 none) { frames := 0, cells := 0, slots := 0, locals := 0 } [.ref a] V (fun (V' : gV) => AVp V' a S 3 (fun k => H (k + 1)) r0 (rotP ρ) ∧ ∀ b, b ≠ a → b ≠ a + 28 → V'.1 b = V.1 b ∧ V'.2.1 b = V.2.1 b ∧ V'.2.2 b = V.2.2 b) := by
  refine ctV_of (L := [(0, .ref a)]) (by decide) rfl (Nat.le_of_ble_eq_true rfl) rfl (fun p e s m args below meth c C => ?_)
  have ha := hA.a
  have loop19 : ∀ (f : Nat) (V1 : gV) (i : Nat), 4 - i = f → (i ≤ 4) → (1 ≤ i) → (RWa V V1 a ρ i) → KW E T V1 p l e { frames := 0, cells := 0, slots := 0, locals := 0 } s m args below meth c 3 0 0 (MQ below (va_Qv (fun (V' : gV) => AVp V' a S 3 (fun k => H (k + 1)) r0 (rotP ρ) ∧ ∀ b, b ≠ a → b ≠ a + 28 → V'.1 b = V.1 b ∧ V'.2.1 b = V.2.1 b ∧ V'.2.2 b = V.2.2 b) (RepS E T) (gA E)) args s 0 0 (gA E)) 19 [(2, .int (nI i)), (1, .ref (dAd a (ρ 0))), (0, .ref a)] [] := by
    intro f
    induction f using Nat.strongRecOn with
    | _ f ih =>
    intro V1 i hf hi hi1 g1
    refine k_iload_n 19 20 C dX3_dropOldest_19 rfl 0 rfl ?_
    refine k_aload_n 20 21 C dX3_dropOldest_20 rfl 2 rfl ?_
    refine k_getF 21 24 C dX3_dropOldest_21 rfl ci_X3 1 fl_X3_16 (IsArm.o ‹_›) (by decide) (IsArm.f1 ‹_›) rfl ?_
    refine k_alen 24 25 C dX3_dropOldest_24 rfl (IsArm.a1 ‹_›) (by decide) (v := 4) rfl ?_
    refine k_icmp_ge 25 48 28 C dX3_dropOldest_25 (by decide) rfl (fun h25 => ?_) (fun h25 => ?_)
    · have z25 : nI 4 ≤ nI i := h25
      rw [n6 (by omega) (by omega)] at z25
      obtain rfl : i = 4 := by omega
      refine k_aload_n 48 49 C dX3_dropOldest_48 rfl 2 rfl ?_
      refine k_getF 49 52 C dX3_dropOldest_49 rfl ci_X3 1 fl_X3_16 (IsArm.o ‹_›) (by decide) (IsArm.f1 ‹_›) rfl ?_
      refine k_aload_n 52 53 C dX3_dropOldest_52 rfl 2 rfl ?_
      refine k_getF 53 56 C dX3_dropOldest_53 rfl ci_X3 1 fl_X3_16 (IsArm.o ‹_›) (by decide) (IsArm.f1 ‹_›) rfl ?_
      refine k_alen 56 57 C dX3_dropOldest_56 rfl (IsArm.a1 ‹_›) (by decide) (v := 4) rfl ?_
      refine k_iconst 57 58 C dX3_dropOldest_57 rfl (v := 1) rfl ?_
      refine k_isub 58 59 C dX3_dropOldest_58 rfl  ?_
      refine k_rwI (y := nI 3) (by decide) ?_
      refine k_aload_n 59 60 C dX3_dropOldest_59 rfl 1 rfl ?_
      refine k_aast3 60 61 C dX3_dropOldest_60 rfl (IsArm.a1 ha) (IsDsk.o (hA.2 _ (g.p5 0 (by omega)).1)) (vp_in_nI (show 3 < 4 by omega) (by decide)) ?_
      rw [nI_clamp (show 3 < 2 ^ 31 by omega)]
      refine k_aload_n 61 62 C dX3_dropOldest_61 rfl 2 rfl ?_
      refine k_aload_n 62 63 C dX3_dropOldest_62 rfl 2 rfl ?_
      refine k_getF 63 66 C dX3_dropOldest_63 rfl ci_X3 1 fl_X3_16 (IsArm.o ‹_›) (by decide) (IsArm.f1 ‹_›) rfl ?_
      refine k_alen 66 67 C dX3_dropOldest_66 rfl (IsArm.a1 ‹_›) (by decide) (v := 4) rfl ?_
      refine k_iconst 67 68 C dX3_dropOldest_67 rfl (v := 1) rfl ?_
      refine k_isub 68 69 C dX3_dropOldest_68 rfl  ?_
      refine k_rwI (y := 3) (by decide) ?_
      refine k_put 69 72 C dX3_dropOldest_69 rfl ci_X3 2 fl_X3_20 (IsArm.o ‹_›) (by decide) rfl rfl rfl wI_off (ps_3_2 _ _ _ _) ?_
      refine k_vret 72 C dX3_dropOldest_72 rfl ?_
      exact ⟨(RWa.fin g g1).1, g1.off⟩
    · have z25 : ¬ nI 4 ≤ nI i := h25
      rw [n6 (by omega) (by omega)] at z25
      refine k_aload_n 28 29 C dX3_dropOldest_28 rfl 2 rfl ?_
      refine k_getF 29 32 C dX3_dropOldest_29 rfl ci_X3 1 fl_X3_16 (IsArm.o ‹_›) (by decide) (IsArm.f1 ‹_›) rfl ?_
      refine k_iload_n 32 33 C dX3_dropOldest_32 rfl 0 rfl ?_
      refine k_iconst 33 34 C dX3_dropOldest_33 rfl (v := 1) rfl ?_
      refine k_isub 34 35 C dX3_dropOldest_34 rfl  ?_
      refine k_rwI (y := nI (i - 1)) (pk_sub (a := i) (b := 1) (by omega)) ?_
      refine k_aload_n 35 36 C dX3_dropOldest_35 rfl 2 rfl ?_
      refine k_getF 36 39 C dX3_dropOldest_36 rfl ci_X3 1 fl_X3_16 (IsArm.o ‹_›) (by decide) (IsArm.f1 ‹_›) rfl ?_
      refine k_iload_n 39 40 C dX3_dropOldest_39 rfl 0 rfl ?_
      refine k_aald3 40 41 C dX3_dropOldest_40 rfl (IsArm.a1 ‹_›) (vp_in_nI (show i < 4 by omega) (by decide)) ?_
      rw [nI_clamp (show i < 2 ^ 31 by omega)]
      refine k_rwQ (y := some (dAd a (ρ i))) ((g1.2.2.2 i (by omega)).trans (by rw [if_neg (by omega)])) ?_
      refine k_aast3 41 42 C dX3_dropOldest_41 rfl (IsArm.a1 ha) (IsDsk.o (hA.2 _ (g.p5 i (by omega)).1)) (vp_in_nI (show i - 1 < 4 by omega) (by decide)) ?_
      rw [nI_clamp (show i - 1 < 2 ^ 31 by omega)]
      refine k_iinc 42 45 C [(2, _), (1, _), (0, _)] (nI (i + 1)) dX3_dropOldest_42 rfl 0 rfl (nI_1 i) (by decide) rfl ?_
      refine k_goto 45 19 C dX3_dropOldest_45 (by decide) ?_
      exact ih (4 - (i + 1)) (by omega) _ (i + 1) rfl (by omega) (by omega) (g1.step hi1)
  refine k_aload_n 0 1 C dX3_dropOldest_0 rfl 0 rfl ?_
  refine k_getF 1 4 C dX3_dropOldest_1 rfl ci_X3 1 fl_X3_16 (IsArm.o ‹_›) (by decide) (IsArm.f1 ‹_›) rfl ?_
  refine k_alen 4 5 C dX3_dropOldest_4 rfl (IsArm.a1 ‹_›) (by decide) (v := 4) rfl ?_
  refine k_iconst 5 6 C dX3_dropOldest_5 rfl (v := 1) rfl ?_
  refine k_icmp_ge 6 10 9 C dX3_dropOldest_6 (by decide) rfl (fun h6 => ?_) (fun h6 => ?_)
  · refine k_aload_n 10 11 C dX3_dropOldest_10 rfl 0 rfl ?_
    refine k_getF 11 14 C dX3_dropOldest_11 rfl ci_X3 1 fl_X3_16 (IsArm.o ‹_›) (by decide) (IsArm.f1 ‹_›) rfl ?_
    refine k_iconst 14 15 C dX3_dropOldest_14 rfl (v := 0) rfl ?_
    refine k_aald3 15 16 C dX3_dropOldest_15 rfl (IsArm.a1 ‹_›) (vp_in_nI (n := 0) (by decide) (by decide)) ?_
    refine k_rwQ (y := some (dAd a (ρ 0))) (g.row 0 (by omega)) ?_
    refine k_astore_n 16 17 C [(1, _), (0, _)] dX3_dropOldest_16 rfl (by decide) rfl ?_
    refine k_iconst 17 18 C dX3_dropOldest_17 rfl (v := 1) rfl ?_
    refine k_istore_n 18 19 C [(2, _), (1, _), (0, _)] dX3_dropOldest_18 rfl (by decide) rfl ?_
    exact loop19 _ V 1 rfl (by omega) (Nat.le_refl 1) ⟨rfl, rfl, fun _ _ => rfl, fun k hk => by rw [if_neg (by omega)]; exact g.row k hk⟩
  · exact absurd (show (1 : Int32) ≤ 4 by decide) h6
set_option maxHeartbeats 4000000 in
set_option maxRecDepth 100000 in
theorem ct_X3_remember {E : gE} {T : gT} {l : Launch} {V : gV} {a : Nat} {S : Dk} {h : Nat} {H : Nat → Dk} {r0 : Nat} {ρ : Nat → Nat} (hA : IsAll T a) (g : AVp V a S h H r0 ρ) : CtV E T l yX3_remember (gw yX3_remember cX3_remember 1 none) { frames := 4, cells := 0, slots := 0, locals := 88 } [.ref a] V (fun (V' : gV) => ∃ ρ', AVp V' a S (remN h) (remH S h H) r0 ρ' ∧ Keep V V' (dAd a r0) (dAd a r0 + 27) ∧ Keep V V' (a + 29) (a + 34) ∧ Off V V' a (a + 142)) := by
  refine ctV_of (L := [(0, .ref a)]) (by decide) rfl (Nat.le_of_ble_eq_true rfl) rfl (fun p e s m args below meth c C => ?_)
  have ha := hA.a
  have hin := dAd_in (a := a) g.r5
  have loop16 : ∀ (f : Nat) (V1 : gV) (h1 : Nat) (H1 : Nat → Dk) (ρ1 : Nat → Nat), 0 = f → (h1 < 4) → (AVp V1 a S h1 H1 r0 ρ1) → (Keep V V1 (dAd a r0) (dAd a r0 + 27)) → (Keep V V1 (a + 29) (a + 34)) → (Off V V1 a (a + 142)) → (remN h = h1 + 1) → (remH S h H = va_up H1 h1 S) → KW E T V1 p l e { frames := 4, cells := 0, slots := 0, locals := 88 } s m args below meth c 1 0 0 (MQ below (va_Qv (fun (V' : gV) => ∃ ρ', AVp V' a S (remN h) (remH S h H) r0 ρ' ∧ Keep V V' (dAd a r0) (dAd a r0 + 27) ∧ Keep V V' (a + 29) (a + 34) ∧ Off V V' a (a + 142)) (RepS E T) (gA E)) args s 0 0 (gA E)) 16 [(0, .ref a)] [] := by
    intro f
    induction f using Nat.strongRecOn with
    | _ f ih =>
    intro V1 h1 H1 ρ1 hf hh gq k0 k1 o1 en eh
    refine k_aload_n 16 17 C dX3_remember_16 rfl 0 rfl ?_
    refine k_get 17 20 C dX3_remember_17 rfl ci_X3 2 fl_X3_20 (IsArm.o ‹_›) (by decide) rfl ?_
    refine k_rwI (gq.st) ?_
    refine k_if_lt 20 73 23 C dX3_remember_20 (by decide) rfl (fun h20 => ?_) (fun h20 => ?_)
    · exact absurd h20 (nI_pos (by omega))
    · refine k_aload_n 23 24 C dX3_remember_23 rfl 0 rfl ?_
      refine k_get 24 27 C dX3_remember_24 rfl ci_X3 2 fl_X3_20 (IsArm.o ‹_›) (by decide) rfl ?_
      refine k_rwI (gq.st) ?_
      refine k_aload_n 27 28 C dX3_remember_27 rfl 0 rfl ?_
      refine k_getF 28 31 C dX3_remember_28 rfl ci_X3 1 fl_X3_16 (IsArm.o ‹_›) (by decide) (IsArm.f1 ‹_›) rfl ?_
      refine k_alen 31 32 C dX3_remember_31 rfl (IsArm.a1 ‹_›) (by decide) (v := 4) rfl ?_
      refine k_icmp_ge 32 73 35 C dX3_remember_32 (by decide) rfl (fun h32 => ?_) (fun h32 => ?_)
      · exact absurd (show nI 4 ≤ nI h1 from h32) (by rw [n6 (by omega) (by omega)]; omega)
      · refine k_aload_n 35 36 C dX3_remember_35 rfl 0 rfl ?_
        refine k_getF 36 39 C dX3_remember_36 rfl ci_X3 1 fl_X3_16 (IsArm.o ‹_›) (by decide) (IsArm.f1 ‹_›) rfl ?_
        refine k_aload_n 39 40 C dX3_remember_39 rfl 0 rfl ?_
        refine k_get 40 43 C dX3_remember_40 rfl ci_X3 2 fl_X3_20 (IsArm.o ‹_›) (by decide) rfl ?_
        refine k_rwI (gq.st) ?_
        refine k_aald3 43 44 C dX3_remember_43 rfl (IsArm.a1 ‹_›) (vp_in_nI hh (by decide)) ?_
        rw [nI_clamp (show h1 < 2 ^ 31 by omega)]
        refine k_rwQ (gq.row h1 hh) ?_
        refine k_ifnullO 44 47 C dX3_remember_44 rfl ?_
        refine k_aload_n 47 48 C dX3_remember_47 rfl 0 rfl ?_
        refine k_getF 48 51 C dX3_remember_48 rfl ci_X3 1 fl_X3_16 (IsArm.o ‹_›) (by decide) (IsArm.f1 ‹_›) rfl ?_
        refine k_aload_n 51 52 C dX3_remember_51 rfl 0 rfl ?_
        refine k_get 52 55 C dX3_remember_52 rfl ci_X3 2 fl_X3_20 (IsArm.o ‹_›) (by decide) rfl ?_
        refine k_rwI (gq.st) ?_
        refine k_aald3 55 56 C dX3_remember_55 rfl (IsArm.a1 ‹_›) (vp_in_nI hh (by decide)) ?_
        rw [nI_clamp (show h1 < 2 ^ 31 by omega)]
        refine k_rwQ (gq.row h1 hh) ?_
        refine k_aload_n 56 57 C dX3_remember_56 rfl 0 rfl ?_
        refine k_get 57 60 C dX3_remember_57 rfl ci_X3 0 fl_X3_10 (IsArm.o ‹_›) (by decide) rfl ?_
        refine k_rwQ (gq.now) ?_
        obtain ⟨π1, hk1⟩ := gq.dk
        obtain ⟨π2, hr2⟩ := gq.dr h1 hh
        have hp1 := gq.p5 h1 hh
        have hap := dAd_apart (a := a) hp1.2
        have hi1 := dAd_in (a := a) hp1.1
        refine k_callVV 60 63 C [_] [] dX3_remember_60 rfl (ct_X0_takeFrom (hA.2 _ hp1.1) (hA.2 _ gq.r5) hr2 hk1 hap) mi_X0_takeFrom ml_X3_232 im_X0_takeFrom se_X0_takeFrom ci_X0 (IsDsk.o (hA.2 _ hp1.1)) rfl rfl ⟨Nat.le_of_ble_eq_true rfl, Nat.le_of_ble_eq_true rfl⟩ (Nat.le_of_ble_eq_true rfl) (Nat.zero_le _) (Nat.zero_le _) (fun V60 p60 => ?_)
        obtain ⟨zk, zo⟩ := p60
        have za := (zo a (by omega)).1
        refine k_aload_n 63 64 C dX3_remember_63 rfl 0 rfl ?_
        refine k_dup 64 65 C dX3_remember_64 rfl rfl ?_
        refine k_get 65 68 C dX3_remember_65 rfl ci_X3 2 fl_X3_20 (IsArm.o ‹_›) (by decide) rfl ?_
        refine k_rwI (y := nI h1) (by rw [za]; exact gq.st) ?_
        refine k_iconst 68 69 C dX3_remember_68 rfl (v := 1) rfl ?_
        refine k_iadd 69 70 C dX3_remember_69 rfl  ?_
        refine k_rwI (nI_1 _) ?_
        refine k_put 70 73 C dX3_remember_70 rfl ci_X3 2 fl_X3_20 (IsArm.o ‹_›) (by decide) rfl rfl rfl wI_off (ps_3_2 _ _ _ _) ?_
        refine k_vret 73 C dX3_remember_73 rfl ?_
        have z2 : Off V60 (wI V60 a 2 (nI (h1 + 1))) a (a + 1) := Off.rf.wI (Nat.le_refl a) (by omega)
        have hkk : ∀ r, r < 5 → r ≠ ρ1 h1 → Keep V1 (wI V60 a 2 (nI (h1 + 1))) (dAd a r) (dAd a r + 27) := fun r hr hne => (zo.keep (by have := dAd_apart (a := a) hne; omega)).trans (z2.keep (by have := dAd_in (a := a) hr; omega))
        have hz := zk.same (z2.keep (l2 := dAd a (ρ1 h1)) (h2 := dAd a (ρ1 h1) + 27) (by omega))
        have e28 := (zo (a + 28) (by omega)).2.2
        refine ⟨ρ1, ⟨by show V60.2.2 a 0 = _; rw [(zo a (by omega)).2.2]; exact gq.now, fun k hk => by show V60.2.2 (a + 28) k = _; rw [e28]; exact gq.row k hk, gq.r5, gq.p5, gq.inj, by rw [en]; simp [wI, upd], by rw [en]; omega, ⟨π1, hk1.same (hkk r0 gq.r5 (fun zz => hp1.2 zz.symm))⟩, fun k hk => ?_, fun k hk => ?_⟩, k0.trans (hkk r0 gq.r5 (fun zz => hp1.2 zz.symm)), k1.trans ((zo.keep (by omega)).trans (z2.keep (by omega))), o1.trans ((zo.wide (by omega) (by omega)).trans (z2.wide (by omega) (by omega)))⟩
        · rw [en] at hk
          rw [eh]
          by_cases ek : k = h1
          · subst ek; rw [va_up_self]; exact ⟨_, hz⟩
          · rw [va_up_ne _ _ ek]
            obtain ⟨π3, hk3⟩ := gq.ds k (by omega)
            exact ⟨π3, hk3.same (hkk _ (gq.p5 k (by omega)).1 (fun zz => ek (gq.inj k h1 (by omega) hh zz)))⟩
        · by_cases ek : k = h1
          · subst ek; exact ⟨_, hz.rows⟩
          · obtain ⟨π3, hk3⟩ := gq.dr k hk
            exact ⟨π3, hk3.same (hkk _ (gq.p5 k hk).1 (fun zz => ek (gq.inj k h1 hk hh zz)))⟩
  refine k_aload_n 0 1 C dX3_remember_0 rfl 0 rfl ?_
  refine k_get 1 4 C dX3_remember_1 rfl ci_X3 2 fl_X3_20 (IsArm.o ‹_›) (by decide) rfl ?_
  refine k_rwI (g.st) ?_
  refine k_aload_n 4 5 C dX3_remember_4 rfl 0 rfl ?_
  refine k_getF 5 8 C dX3_remember_5 rfl ci_X3 1 fl_X3_16 (IsArm.o ‹_›) (by decide) (IsArm.f1 ‹_›) rfl ?_
  refine k_alen 8 9 C dX3_remember_8 rfl (IsArm.a1 ‹_›) (by decide) (v := 4) rfl ?_
  refine k_icmp_lt 9 16 12 C dX3_remember_9 (by decide) rfl (fun h9 => ?_) (fun h9 => ?_)
  · have z9 : nI h < nI 4 := h9
    rw [nI_ltI (by have := g.le; omega) (by omega)] at z9
    first
      | exact loop16 _ V h H ρ rfl z9 g Keep.rf Keep.rf Off.rf (by unfold remN; rw [if_pos z9]) (by unfold remH; rw [if_pos z9])
      | exact loop16 _ V13 3 _ _ rfl (by omega) p13.1 (fun b x y => p13.2 b (by omega) (by omega)) (fun b x y => p13.2 b (by omega) (by omega)) (fun b x => p13.2 b (by omega) (by omega)) (by unfold remN; rw [if_neg z9]) (by unfold remH; rw [if_neg z9])
  · have z9 : ¬ nI h < nI 4 := h9
    rw [nI_ltI (by have := g.le; omega) (by omega)] at z9
    obtain rfl : h = 4 := by have := g.le; omega
    refine k_aload_n 12 13 C dX3_remember_12 rfl 0 rfl ?_
    refine k_callVV 13 16 C [] [] dX3_remember_13 rfl (ct_X3_dropOldest hA g) mi_X3_dropOldest ml_X3_229 im_X3_dropOldest se_X3_dropOldest ci_X3 (IsArm.o ‹_›) rfl rfl ⟨Nat.le_of_ble_eq_true rfl, Nat.le_of_ble_eq_true rfl⟩ (Nat.le_of_ble_eq_true rfl) (Nat.zero_le _) (Nat.zero_le _) (fun V13 p13 => ?_)
    first
      | exact loop16 _ V h H ρ rfl z9 g Keep.rf Keep.rf Off.rf (by unfold remN; rw [if_pos z9]) (by unfold remH; rw [if_pos z9])
      | exact loop16 _ V13 3 _ _ rfl (by omega) p13.1 (fun b x y => p13.2 b (by omega) (by omega)) (fun b x y => p13.2 b (by omega) (by omega)) (fun b x => p13.2 b (by omega) (by omega)) (by unfold remN; rw [if_neg z9]) (by unfold remH; rw [if_neg z9])

