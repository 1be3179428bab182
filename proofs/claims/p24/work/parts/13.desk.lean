/-! a desk as a record: fields, settings, number of drawings, drawings; π: which of its six rows a place holds -/
abbrev Dk : Type := (Nat → Int32) × (Nat → Int32) × Nat × (Nat → Dr)
def kf (S : Dk) : Nat → Int32 := S.1
def ks (S : Dk) : Nat → Int32 := S.2.1
def kn (S : Dk) : Nat := S.2.2.1
def kdr (S : Dk) : Nat → Dr := S.2.2.2
def DK (V : gV) (D : Nat) (S : Dk) (π : Nat → Nat) : Prop := (∀ j, j < 10 → j ≠ 4 → V.1 D j = kf S j) ∧ (∀ j, j < 5 → V.1 (D + 1) j = ks S j) ∧ V.1 D 11 = nI (kn S) ∧ kn S ≤ 6 ∧ (∀ j, j < 6 → π j < 6 ∧ V.2.2 (D + 2) j = some (D + 3 + 4 * π j)) ∧ (∀ i j, i < 6 → j < 6 → π i = π j → i = j) ∧ ∀ i, i < kn S → DV V (D + 3 + 4 * π i) (kdr S i) ∧ dW (kdr S i)
section DKS
variable {V : gV} {D : Nat} {S : Dk} {π : Nat → Nat}
theorem DK.f (h : DK V D S π) (j : Nat) (hj : j < 10) (h4 : j ≠ 4) : V.1 D j = kf S j := h.1 j hj h4
theorem DK.s (h : DK V D S π) (j : Nat) (hj : j < 5) : V.1 (D + 1) j = ks S j := h.2.1 j hj
theorem DK.n (h : DK V D S π) : V.1 D 11 = nI (kn S) := h.2.2.1
theorem DK.le (h : DK V D S π) : kn S ≤ 6 := h.2.2.2.1
theorem DK.p (h : DK V D S π) (j : Nat) (hj : j < 6) : π j < 6 := (h.2.2.2.2.1 j hj).1
theorem DK.r (h : DK V D S π) (j : Nat) (hj : j < 6) : V.2.2 (D + 2) j = some (D + 3 + 4 * π j) := (h.2.2.2.2.1 j hj).2
theorem DK.inj (h : DK V D S π) (i j : Nat) (hi : i < 6) (hj : j < 6) (e : π i = π j) : i = j := h.2.2.2.2.2.1 i j hi hj e
theorem DK.d (h : DK V D S π) (i : Nat) (hi : i < kn S) : DV V (D + 3 + 4 * π i) (kdr S i) := (h.2.2.2.2.2.2 i hi).1
theorem DK.w (h : DK V D S π) (i : Nat) (hi : i < kn S) : dW (kdr S i) := (h.2.2.2.2.2.2 i hi).2
theorem DK.off {V' : gV} {lo hi : Nat} (h : DK V D S π) (ho : Off V V' lo hi) (hb : D + 27 ≤ lo ∨ hi ≤ D) : DK V' D S π := by
  obtain ⟨h1, h2, h3, h4, h5, h6, h7⟩ := h
  have e0 := ho D (by omega)
  have e1 := ho (D + 1) (by omega)
  have e2 := ho (D + 2) (by omega)
  refine ⟨fun j a b => by rw [e0.1]; exact h1 j a b, fun j a => by rw [e1.1]; exact h2 j a, by rw [e0.1]; exact h3, h4, fun j a => by rw [e2.2.2]; exact h5 j a, h6, fun i a => ?_⟩
  have hp := (h5 i (by omega)).1
  exact ⟨(h7 i a).1.off ho (by omega), (h7 i a).2⟩
/-- one of its drawings changed -/
theorem DK.drw {V' : gV} (h : DK V D S π) {i : Nat} (hi : i < kn S) {d' : Dr} (ho : Off V V' (D + 3 + 4 * π i) (D + 3 + 4 * π i + 4)) (hd : DV V' (D + 3 + 4 * π i) d') (hw : dW d') : DK V' D (kf S, ks S, kn S, va_up (kdr S) i d') π := by
  obtain ⟨h1, h2, h3, h4, h5, h6, h7⟩ := h
  have e0 := ho D (by omega)
  have e1 := ho (D + 1) (by omega)
  have e2 := ho (D + 2) (by omega)
  refine ⟨fun j a b => by rw [e0.1]; exact h1 j a b, fun j a => by rw [e1.1]; exact h2 j a, by rw [e0.1]; exact h3, h4, fun j a => by rw [e2.2.2]; exact h5 j a, h6, fun k a => ?_⟩
  have a' : k < kn S := a
  by_cases ek : k = i
  · subst ek
    show DV V' _ (va_up _ _ _ _) ∧ dW (va_up _ _ _ _)
    rw [va_up_self]
    exact ⟨hd, hw⟩
  · show DV V' _ (va_up _ _ _ _) ∧ dW (va_up _ _ _ _)
    rw [va_up_ne _ _ ek]
    have hp : π k ≠ π i := fun z => ek (h6 k i (by omega) (by omega) z)
    exact ⟨(h7 k a').1.off ho (by omega), (h7 k a').2⟩
/-- a spare row changed -/
theorem DK.spare {V' : gV} (h : DK V D S π) {j : Nat} (hj : j < 6) (hn : kn S ≤ j) (ho : Off V V' (D + 3 + 4 * π j) (D + 3 + 4 * π j + 4)) : DK V' D S π := by
  obtain ⟨h1, h2, h3, h4, h5, h6, h7⟩ := h
  have e0 := ho D (by omega)
  have e1 := ho (D + 1) (by omega)
  have e2 := ho (D + 2) (by omega)
  refine ⟨fun j a b => by rw [e0.1]; exact h1 j a b, fun j a => by rw [e1.1]; exact h2 j a, by rw [e0.1]; exact h3, h4, fun j a => by rw [e2.2.2]; exact h5 j a, h6, fun k a => ?_⟩
  have hp : π k ≠ π j := fun z => by have := h6 k j (by omega) hj z; omega
  exact ⟨(h7 k a).1.off ho (by omega), (h7 k a).2⟩
/-- a field written -/
theorem DK.fld (h : DK V D S π) {j : Nat} {x : Int32} (hj : j < 10) : DK (wI V D j x) D (va_up (kf S) j x, ks S, kn S, kdr S) π := by
  obtain ⟨h1, h2, h3, h4, h5, h6, h7⟩ := h
  have ho : ∀ b, b ≠ D → (wI V D j x).1 b = V.1 b := fun b hb => (wI_off b hb).1
  refine ⟨fun i a b => ?_, fun i a => by rw [ho (D + 1) (by omega)]; exact h2 i a, ?_, h4, h5, h6, fun k a => ⟨?_, (h7 k a).2⟩⟩
  · show (wI V D j x).1 D i = va_up (kf S) j x i
    by_cases e : i = j
    · subst e; simp [wI, upd, va_up]
    · simp only [wI, upd, va_up, if_true, e, if_false]; exact h1 i a b
  · show (wI V D j x).1 D 11 = _
    simp only [wI, upd, if_true, show ¬ 11 = j by omega, if_false]; exact h3
  · exact (h7 k a).1.off (lo := D) (hi := D + 1) (Off.rf.wI (Nat.le_refl D) (by omega)) (by omega)
/-- a setting written -/
theorem DK.stg (h : DK V D S π) {j : Nat} {x : Int32} (hj : j < 5) : DK (wI V (D + 1) j x) D (kf S, va_up (ks S) j x, kn S, kdr S) π := by
  obtain ⟨h1, h2, h3, h4, h5, h6, h7⟩ := h
  have ho : ∀ b, b ≠ D + 1 → (wI V (D + 1) j x).1 b = V.1 b := fun b hb => (wI_off b hb).1
  refine ⟨fun i a b => by rw [ho D (by omega)]; exact h1 i a b, fun i a => ?_, by rw [ho D (by omega)]; exact h3, h4, h5, h6, fun k a => ⟨?_, (h7 k a).2⟩⟩
  · show (wI V (D + 1) j x).1 (D + 1) i = va_up (ks S) j x i
    by_cases e : i = j
    · subst e; simp [wI, upd, va_up]
    · simp only [wI, upd, va_up, if_true, e, if_false]; exact h2 i a
  · exact (h7 k a).1.off (lo := D + 1) (hi := D + 2) (Off.rf.wI (Nat.le_refl _) (by omega)) (by omega)
end DKS
def sFind (D : Nat) (S : Dk) (π : Nat → Nat) (i : Int32) : Option Nat := if ¬ i < 0 ∧ ¬ nI (kn S) ≤ i then some (D + 3 + 4 * π i.toNatClampNeg) else none
theorem n6 {n j : Nat} (hn : n ≤ 20) (hj : j ≤ 20) : nI n ≤ nI j ↔ n ≤ j := nI_leI (by omega) (by omega)
theorem sFind_at {D : Nat} {S : Dk} {π : Nat → Nat} {j : Nat} (hn : kn S ≤ 6) (hj : j < kn S) : sFind D S π (nI j) = some (D + 3 + 4 * π j) := by
  unfold sFind
  rw [if_pos ⟨nI_pos (by omega), by rw [n6 (by omega) (by omega)]; omega⟩, nI_clamp (by omega)]
theorem sFind_out {D : Nat} {S : Dk} {π : Nat → Nat} {i : Int32} (h : ¬ (¬ i < 0 ∧ ¬ nI (kn S) ≤ i)) : sFind D S π i = none := if_neg h
theorem sFind_cases (D : Nat) (S : Dk) (π : Nat → Nat) (hn : kn S ≤ 6) (i : Int32) : (¬ (¬ i < 0 ∧ ¬ nI (kn S) ≤ i) ∧ sFind D S π i = none) ∨ ∃ j, j < kn S ∧ i = nI j ∧ sFind D S π i = some (D + 3 + 4 * π j) := by
  by_cases h : ¬ i < 0 ∧ ¬ nI (kn S) ≤ i
  · obtain ⟨j, hj, rfl⟩ := nI_of h.1
    have h2 := h.2
    rw [nI_leI (by omega) hj] at h2
    exact Or.inr ⟨j, by omega, rfl, sFind_at hn (by omega)⟩
  · exact Or.inl ⟨h, if_neg h⟩
def sSet (S : Dk) (i : Int32) : Int32 := if ¬ i < 0 ∧ ¬ 5 ≤ i then ks S i.toNatClampNeg else 0
def sgX (S : Dk) : Int32 := if ks S 0 = 0 then 1 else -1
def sgY (S : Dk) : Int32 := if ks S 0 = 1 then -1 else 1
def hcp (S : Dk) (num : Int32) : Nat → Bool
  | 0 => false
  | j + 1 => hcp S num j || decide (rpa (kdr S j) = num)
theorem hcp_mono {S : Dk} {num : Int32} {j : Nat} : ∀ {n : Nat}, j < n → rpa (kdr S j) = num → hcp S num n = true
  | n + 1, h, h2 => by
    by_cases e : j = n
    · subst e; simp [hcp, h2]
    · have h3 := hcp_mono (S := S) (num := num) (n := n) (by omega) h2
      simp [hcp, h3]
def orgF (S : Dk) : Nat → Int32 → Int32
  | 0, a => a
  | k + 1, a => if (¬ a < 0 ∧ ¬ nI (kn S) ≤ a) ∧ ¬ rpa (kdr S a.toNatClampNeg) = -1 then orgF S k (rpa (kdr S a.toNatClampNeg)) else a
def stpF (S : Dk) : Nat → Nat → Int32 → Int32
  | 0, _, _ => 6
  | k + 1, i, a => if (¬ a < 0 ∧ ¬ nI (kn S) ≤ a) ∧ ¬ rpa (kdr S a.toNatClampNeg) = -1 then stpF S k (i + 1) (rpa (kdr S a.toNatClampNeg)) else nI i
def onB (S : Dk) (d : Dr) (i : Int32) : Bool := decide (¬ vX d i < 0) && (decide (¬ (ks S 2).toInt64 * rpt d < vX d i) && (decide (¬ vY d i < 0) && decide (¬ (ks S 3).toInt64 * rpt d < vY d i)))
def offB (S : Dk) (d : Dr) : Nat → Nat
  | 0 => 0
  | j + 1 => offB S d j + (if onB S d (nI j) = true then 0 else 1)
def sWorn (S : Dk) : Int32 := 1 + (quo (kf S 5).toInt64 (ks S 4).toInt64).toInt32
def sAim (S : Dk) (place parts : Int64) (pv sg : Int32) : Int64 := pv.toInt64 * parts * (kf S 1).toInt64 + (sg * kf S 0).toInt64 * (place - pv.toInt64 * parts)
def sFol (place aim play : Int64) : Int64 := if place + play < aim then aim - play else if aim < place - play then aim + play else place
set_option maxHeartbeats 4000000 in
set_option maxRecDepth 100000 in
theorem ct_X0_setting {E : gE} {T : gT} {l : Launch} {V : gV} {i : Int32} {D : Nat} {S : Dk} {π : Nat → Nat} (hD : IsDsk T D) (hk : DK V D S π) : CtI E T l yX0_setting (gw yX0_setting cX0_setting 2 (some .int)) { frames := 0, cells := 0, slots := 0, locals := 0 } [.ref D, .int i] V (fun (r : Int32) (V' : gV) => V' = V ∧ r = sSet S i) := by
  refine ctI_of (L := [(0, .ref D), (1, .int i)]) (by decide) rfl (Nat.le_of_ble_eq_true rfl) rfl (fun p e s m args below meth c C => ?_)
  refine k_iload_n 0 1 C dX0_setting_0 rfl 1 rfl ?_
  refine k_if_lt 1 22 4 C dX0_setting_1 (by decide) rfl (fun h1 => ?_) (fun h1 => ?_)
  · refine k_iconst 22 23 C dX0_setting_22 rfl (v := 0) rfl ?_
    refine k_iret 23 C dX0_setting_23 rfl ?_
    exact ⟨rfl, by simp [sSet, h1]⟩
  · refine k_iload_n 4 5 C dX0_setting_4 rfl 1 rfl ?_
    refine k_aload_n 5 6 C dX0_setting_5 rfl 0 rfl ?_
    refine k_getF 6 9 C dX0_setting_6 rfl ci_X0 4 fl_X0_28 (IsDsk.o ‹_›) (by decide) (IsDsk.f4 ‹_›) rfl ?_
    refine k_alen 9 10 C dX0_setting_9 rfl (IsDsk.a4 ‹_›) (by decide) (v := 5) rfl ?_
    refine k_icmp_ge 10 22 13 C dX0_setting_10 (by decide) rfl (fun h10 => ?_) (fun h10 => ?_)
    · refine k_iconst 22 23 C dX0_setting_22 rfl (v := 0) rfl ?_
      refine k_iret 23 C dX0_setting_23 rfl ?_
      exact ⟨rfl, by simp [sSet, h1, h10]⟩
    · have hz : i.toNatClampNeg < 5 := Nat.not_le.mp (fun z => (vi_of (N := 5) (by decide) h1 h10) (Or.inr z))
      refine k_aload_n 13 14 C dX0_setting_13 rfl 0 rfl ?_
      refine k_getF 14 17 C dX0_setting_14 rfl ci_X0 4 fl_X0_28 (IsDsk.o ‹_›) (by decide) (IsDsk.f4 ‹_›) rfl ?_
      refine k_iload_n 17 18 C dX0_setting_17 rfl 1 rfl ?_
      refine k_iald 18 19 C dX0_setting_18 rfl (IsDsk.a4 ‹_›) (vi_of (by decide) h1 h10) ?_
      refine k_rwI (hk.s _ hz) ?_
      refine k_goto 19 23 C dX0_setting_19 (by decide) ?_
      refine k_iret 23 C dX0_setting_23 rfl ?_
      exact ⟨rfl, by simp [sSet, h1, h10]⟩
set_option maxHeartbeats 4000000 in
set_option maxRecDepth 100000 in
theorem ct_X0_find {E : gE} {T : gT} {l : Launch} {V : gV} {i : Int32} {D : Nat} {S : Dk} {π : Nat → Nat} (hD : IsDsk T D) (hk : DK V D S π) : CtQ E T l yX0_find (gw yX0_find cX0_find 2 (some (.object "PantographArm$Drawing"))) { frames := 0, cells := 0, slots := 0, locals := 0 } [.ref D, .int i] V (fun (r : Option Nat) (V' : gV) => V' = V ∧ r = sFind D S π i) := by
  refine ctQ_of (L := [(0, .ref D), (1, .int i)]) (by decide) rfl (Nat.le_of_ble_eq_true rfl) rfl (fun p e s m args below meth c C => ?_)
  refine k_iload_n 0 1 C dX0_find_0 rfl 1 rfl ?_
  refine k_if_lt 1 30 4 C dX0_find_1 (by decide) rfl (fun h1 => ?_) (fun h1 => ?_)
  · refine k_null 30 31 C dX0_find_30 rfl  ?_
    refine k_aret 31 C (x := none) dX0_find_31 rfl (Or.inl ⟨_, rfl⟩) ?_
    first | exact ⟨rfl, (sFind_out (fun z => z.1 h1)).symm⟩ | exact ⟨rfl, (sFind_out (fun z => z.2 h9)).symm⟩ | exact ⟨rfl, by unfold sFind; rw [if_pos ⟨h1, h9⟩, nI_clamp hj]⟩
  · refine k_iload_n 4 5 C dX0_find_4 rfl 1 rfl ?_
    refine k_aload_n 5 6 C dX0_find_5 rfl 0 rfl ?_
    refine k_get 6 9 C dX0_find_6 rfl ci_X0 11 fl_X0_52 (IsDsk.o ‹_›) (by decide) rfl ?_
    refine k_rwI (hk.n) ?_
    refine k_icmp_ge 9 30 12 C dX0_find_9 (by decide) rfl (fun h9 => ?_) (fun h9 => ?_)
    · refine k_null 30 31 C dX0_find_30 rfl  ?_
      refine k_aret 31 C (x := none) dX0_find_31 rfl (Or.inl ⟨_, rfl⟩) ?_
      first | exact ⟨rfl, (sFind_out (fun z => z.1 h1)).symm⟩ | exact ⟨rfl, (sFind_out (fun z => z.2 h9)).symm⟩ | exact ⟨rfl, by unfold sFind; rw [if_pos ⟨h1, h9⟩, nI_clamp hj]⟩
    · obtain ⟨j, hj, rfl⟩ := nI_of h1
      have h9b := h9
      rw [nI_leI (by have := hk.le; omega) hj] at h9b
      have hj6 : j < 6 := by have := hk.le; omega
      refine k_iload_n 12 13 C dX0_find_12 rfl 1 rfl ?_
      refine k_aload_n 13 14 C dX0_find_13 rfl 0 rfl ?_
      refine k_getF 14 17 C dX0_find_14 rfl ci_X0 10 fl_X0_48 (IsDsk.o ‹_›) (by decide) (IsDsk.f10 ‹_›) rfl ?_
      refine k_alen 17 18 C dX0_find_17 rfl (IsDsk.a10 ‹_›) (by decide) (v := 6) rfl ?_
      refine k_icmp_ge 18 30 21 C dX0_find_18 (by decide) rfl (fun h18 => ?_) (fun h18 => ?_)
      · exact absurd (show nI 6 ≤ nI j from h18) (by rw [nI_leI (by omega) (by omega)]; omega)
      · refine k_aload_n 21 22 C dX0_find_21 rfl 0 rfl ?_
        refine k_getF 22 25 C dX0_find_22 rfl ci_X0 10 fl_X0_48 (IsDsk.o ‹_›) (by decide) (IsDsk.f10 ‹_›) rfl ?_
        refine k_iload_n 25 26 C dX0_find_25 rfl 1 rfl ?_
        refine k_aald2 26 27 C dX0_find_26 rfl (IsDsk.a10 ‹_›) (vp_in_nI hj6 (by decide)) ?_
        rw [nI_clamp hj]
        refine k_rwQ (hk.r j hj6) ?_
        refine k_goto 27 31 C dX0_find_27 (by decide) ?_
        refine k_aret 31 C dX0_find_31 rfl (Or.inl ⟨_, rfl⟩) ?_
        first | exact ⟨rfl, (sFind_out (fun z => z.1 h1)).symm⟩ | exact ⟨rfl, (sFind_out (fun z => z.2 h9)).symm⟩ | exact ⟨rfl, by unfold sFind; rw [if_pos ⟨h1, h9⟩, nI_clamp hj]⟩
set_option maxHeartbeats 4000000 in
set_option maxRecDepth 100000 in
theorem ct_X0_spare {E : gE} {T : gT} {l : Launch} {V : gV} {D : Nat} {S : Dk} {π : Nat → Nat} (hD : IsDsk T D) (hk : DK V D S π) : CtQ E T l yX0_spare (gw yX0_spare cX0_spare 1 (some (.object "PantographArm$Drawing"))) { frames := 0, cells := 0, slots := 0, locals := 0 } [.ref D] V (fun (r : Option Nat) (V' : gV) => V' = V ∧ r = if kn S < 6 then some (D + 3 + 4 * π (kn S)) else none) := by
  refine ctQ_of (L := [(0, .ref D)]) (by decide) rfl (Nat.le_of_ble_eq_true rfl) rfl (fun p e s m args below meth c C => ?_)
  refine k_aload_n 0 1 C dX0_spare_0 rfl 0 rfl ?_
  refine k_get 1 4 C dX0_spare_1 rfl ci_X0 11 fl_X0_52 (IsDsk.o ‹_›) (by decide) rfl ?_
  refine k_rwI (hk.n) ?_
  refine k_if_lt 4 31 7 C dX0_spare_4 (by decide) rfl (fun h4 => ?_) (fun h4 => ?_)
  · exact absurd h4 (nI_pos (by have := hk.le; omega))
  · refine k_aload_n 7 8 C dX0_spare_7 rfl 0 rfl ?_
    refine k_get 8 11 C dX0_spare_8 rfl ci_X0 11 fl_X0_52 (IsDsk.o ‹_›) (by decide) rfl ?_
    refine k_rwI (hk.n) ?_
    refine k_aload_n 11 12 C dX0_spare_11 rfl 0 rfl ?_
    refine k_getF 12 15 C dX0_spare_12 rfl ci_X0 10 fl_X0_48 (IsDsk.o ‹_›) (by decide) (IsDsk.f10 ‹_›) rfl ?_
    refine k_alen 15 16 C dX0_spare_15 rfl (IsDsk.a10 ‹_›) (by decide) (v := 6) rfl ?_
    refine k_icmp_ge 16 31 19 C dX0_spare_16 (by decide) rfl (fun h16 => ?_) (fun h16 => ?_)
    · have h15b : nI 6 ≤ nI (kn S) := h16
      rw [n6 (by omega) (by have := hk.le; omega)] at h15b
      have hz : ¬ kn S < 6 := by omega
      refine k_null 31 32 C dX0_spare_31 rfl  ?_
      refine k_aret 32 C (x := none) dX0_spare_32 rfl (Or.inl ⟨_, rfl⟩) ?_
      exact ⟨rfl, by simp [hz]⟩
    · have h15b : ¬ nI 6 ≤ nI (kn S) := h16
      rw [n6 (by omega) (by have := hk.le; omega)] at h15b
      have hz : kn S < 6 := by omega
      refine k_aload_n 19 20 C dX0_spare_19 rfl 0 rfl ?_
      refine k_getF 20 23 C dX0_spare_20 rfl ci_X0 10 fl_X0_48 (IsDsk.o ‹_›) (by decide) (IsDsk.f10 ‹_›) rfl ?_
      refine k_aload_n 23 24 C dX0_spare_23 rfl 0 rfl ?_
      refine k_get 24 27 C dX0_spare_24 rfl ci_X0 11 fl_X0_52 (IsDsk.o ‹_›) (by decide) rfl ?_
      refine k_rwI (hk.n) ?_
      refine k_aald2 27 28 C dX0_spare_27 rfl (IsDsk.a10 ‹_›) (vp_in_nI hz (by decide)) ?_
      rw [nI_clamp (by omega)]
      refine k_rwQ (hk.r _ hz) ?_
      refine k_goto 28 32 C dX0_spare_28 (by decide) ?_
      refine k_aret 32 C dX0_spare_32 rfl (Or.inl ⟨_, rfl⟩) ?_
      exact ⟨rfl, by simp [hz]⟩
set_option maxHeartbeats 4000000 in
set_option maxRecDepth 100000 in
theorem ct_X0_changeSetting {E : gE} {T : gT} {l : Launch} {V : gV} {j : Nat} {v : Int32} (hj : j < 5) {D : Nat} {S : Dk} {π : Nat → Nat} (hD : IsDsk T D) (hk : DK V D S π) : CtV E T l yX0_changeSetting (gw yX0_changeSetting cX0_changeSetting 3 none) { frames := 0, cells := 0, slots := 0, locals := 0 } [.ref D, .int (nI j), .int v] V (fun (V' : gV) => DK V' D (kf S, va_up (ks S) j v, kn S, kdr S) π ∧ Off V V' D (D + 27)) := by
  refine ctV_of (L := [(0, .ref D), (1, .int (nI j)), (2, .int v)]) (by decide) rfl (Nat.le_of_ble_eq_true rfl) rfl (fun p e s m args below meth c C => ?_)
  refine k_iload_n 0 1 C dX0_changeSetting_0 rfl 1 rfl ?_
  refine k_if_lt 1 20 4 C dX0_changeSetting_1 (by decide) rfl (fun h1 => ?_) (fun h1 => ?_)
  · exact absurd h1 (nI_pos (by omega))
  · refine k_iload_n 4 5 C dX0_changeSetting_4 rfl 1 rfl ?_
    refine k_aload_n 5 6 C dX0_changeSetting_5 rfl 0 rfl ?_
    refine k_getF 6 9 C dX0_changeSetting_6 rfl ci_X0 4 fl_X0_28 (IsDsk.o ‹_›) (by decide) (IsDsk.f4 ‹_›) rfl ?_
    refine k_alen 9 10 C dX0_changeSetting_9 rfl (IsDsk.a4 ‹_›) (by decide) (v := 5) rfl ?_
    refine k_icmp_ge 10 20 13 C dX0_changeSetting_10 (by decide) rfl (fun h10 => ?_) (fun h10 => ?_)
    · exact absurd (show nI 5 ≤ nI j from h10) (by rw [nI_leI (by omega) (by omega)]; omega)
    · refine k_aload_n 13 14 C dX0_changeSetting_13 rfl 0 rfl ?_
      refine k_getF 14 17 C dX0_changeSetting_14 rfl ci_X0 4 fl_X0_28 (IsDsk.o ‹_›) (by decide) (IsDsk.f4 ‹_›) rfl ?_
      refine k_iload_n 17 18 C dX0_changeSetting_17 rfl 1 rfl ?_
      refine k_iload_n 18 19 C dX0_changeSetting_18 rfl 2 rfl ?_
      refine k_iast 19 20 C dX0_changeSetting_19 rfl (IsDsk.a4 ‹_›) (vp_in_nI hj (by decide)) ?_
      rw [nI_clamp (by omega)]
      refine k_vret 20 C dX0_changeSetting_20 rfl ?_
      exact ⟨hk.stg hj, by repeat (first | exact Off.rf | refine Off.wI ?_ (by omega) (by omega) | refine Off.wL ?_ (by omega) (by omega) | refine Off.wR ?_ (by omega) (by omega))⟩
set_option maxHeartbeats 4000000 in
set_option maxRecDepth 100000 in
theorem ct_X0_signX {E : gE} {T : gT} {l : Launch} {V : gV} {D : Nat} {S : Dk} {π : Nat → Nat} (hD : IsDsk T D) (hk : DK V D S π) : CtI E T l yX0_signX (gw yX0_signX cX0_signX 1 (some .int)) { frames := 1, cells := 0, slots := 0, locals := 21 } [.ref D] V (fun (r : Int32) (V' : gV) => V' = V ∧ r = sgX S) := by
  refine ctI_of (L := [(0, .ref D)]) (by decide) rfl (Nat.le_of_ble_eq_true rfl) rfl (fun p e s m args below meth c C => ?_)
  refine k_aload_n 0 1 C dX0_signX_0 rfl 0 rfl ?_
  refine k_iconst 1 2 C dX0_signX_1 rfl (v := 0) rfl ?_
  refine k_callVI 2 5 C [_] [] dX0_signX_2 rfl (ct_X0_setting hD hk) mi_X0_setting ml_X0_56 im_X0_setting se_X0_setting ci_X0 (IsDsk.o ‹_›) rfl rfl ⟨Nat.le_of_ble_eq_true rfl, Nat.le_of_ble_eq_true rfl⟩ (Nat.le_of_ble_eq_true rfl) (Nat.zero_le _) (Nat.zero_le _) (fun r2 V2 p2 => ?_)
  obtain ⟨rfl, rfl⟩ := And.intro p2.1.symm p2.2
  refine k_rwI (show sSet S 0 = ks S 0 from rfl) ?_
  refine k_if_ne 5 12 8 C dX0_signX_5 (by decide) rfl (fun h5 => ?_) (fun h5 => ?_)
  · refine k_iconst 12 13 C dX0_signX_12 rfl (v := (-1)) rfl ?_
    refine k_iret 13 C dX0_signX_13 rfl ?_
    exact ⟨rfl, by simp [sgX, h5]⟩
  · refine k_iconst 8 9 C dX0_signX_8 rfl (v := 1) rfl ?_
    refine k_goto 9 13 C dX0_signX_9 (by decide) ?_
    refine k_iret 13 C dX0_signX_13 rfl ?_
    exact ⟨rfl, by simp [sgX, h5]⟩
set_option maxHeartbeats 4000000 in
set_option maxRecDepth 100000 in
theorem ct_X0_signY {E : gE} {T : gT} {l : Launch} {V : gV} {D : Nat} {S : Dk} {π : Nat → Nat} (hD : IsDsk T D) (hk : DK V D S π) : CtI E T l yX0_signY (gw yX0_signY cX0_signY 1 (some .int)) { frames := 1, cells := 0, slots := 0, locals := 21 } [.ref D] V (fun (r : Int32) (V' : gV) => V' = V ∧ r = sgY S) := by
  refine ctI_of (L := [(0, .ref D)]) (by decide) rfl (Nat.le_of_ble_eq_true rfl) rfl (fun p e s m args below meth c C => ?_)
  refine k_aload_n 0 1 C dX0_signY_0 rfl 0 rfl ?_
  refine k_iconst 1 2 C dX0_signY_1 rfl (v := 0) rfl ?_
  refine k_callVI 2 5 C [_] [] dX0_signY_2 rfl (ct_X0_setting hD hk) mi_X0_setting ml_X0_56 im_X0_setting se_X0_setting ci_X0 (IsDsk.o ‹_›) rfl rfl ⟨Nat.le_of_ble_eq_true rfl, Nat.le_of_ble_eq_true rfl⟩ (Nat.le_of_ble_eq_true rfl) (Nat.zero_le _) (Nat.zero_le _) (fun r2 V2 p2 => ?_)
  obtain ⟨rfl, rfl⟩ := And.intro p2.1.symm p2.2
  refine k_rwI (show sSet S 0 = ks S 0 from rfl) ?_
  refine k_iconst 5 6 C dX0_signY_5 rfl (v := 1) rfl ?_
  refine k_icmp_ne 6 13 9 C dX0_signY_6 (by decide) rfl (fun h6 => ?_) (fun h6 => ?_)
  · refine k_iconst 13 14 C dX0_signY_13 rfl (v := 1) rfl ?_
    refine k_iret 14 C dX0_signY_14 rfl ?_
    exact ⟨rfl, by simp [sgY, h6]⟩
  · refine k_iconst 9 10 C dX0_signY_9 rfl (v := (-1)) rfl ?_
    refine k_goto 10 14 C dX0_signY_10 (by decide) ?_
    refine k_iret 14 C dX0_signY_14 rfl ?_
    exact ⟨rfl, by simp [sgY, h6]⟩
set_option maxHeartbeats 4000000 in
set_option maxRecDepth 100000 in
theorem ct_X0_follow {E : gE} {T : gT} {l : Launch} {V : gV} {a b d : Int64} : CtL E T l yX0_follow (gw yX0_follow cX0_follow 6 (some .long)) { frames := 0, cells := 0, slots := 0, locals := 0 } [.long a, .long b, .long d] V (fun (r : Int64) (V' : gV) => V' = V ∧ r = sFol a b d) := by
  refine ctL_of (L := [(0, .long a), (2, .long b), (4, .long d)]) (by decide) rfl (Nat.le_of_ble_eq_true rfl) rfl (fun p e s m args below meth c C => ?_)
  refine k_lload_n 0 1 C dX0_follow_0 rfl 1 rfl ?_
  refine k_lload_n 1 2 C dX0_follow_1 rfl 0 rfl ?_
  refine k_lload 2 4 C dX0_follow_2 rfl 2 rfl ?_
  refine k_ladd 4 5 C dX0_follow_4 rfl  ?_
  refine k_lcmp_le 5 6 14 9 C dX0_follow_5 rfl dX0_follow_6 (by decide) rfl (fun h6 => ?_) (fun h6 => ?_)
  · refine k_lload_n 14 15 C dX0_follow_14 rfl 1 rfl ?_
    refine k_lload_n 15 16 C dX0_follow_15 rfl 0 rfl ?_
    refine k_lload 16 18 C dX0_follow_16 rfl 2 rfl ?_
    refine k_lsub 18 19 C dX0_follow_18 rfl  ?_
    refine k_lcmp_ge 19 20 28 23 C dX0_follow_19 rfl dX0_follow_20 (by decide) rfl (fun h20 => ?_) (fun h20 => ?_)
    · refine k_lload_n 28 29 C dX0_follow_28 rfl 0 rfl ?_
      refine k_lret 29 C dX0_follow_29 rfl ?_
      exact ⟨rfl, by simp only [sFol]; first | rw [if_pos (i64_not_le.mp h6)] | rw [if_neg (i64_not_lt.mpr h6), if_pos (i64_not_le.mp h20)] | rw [if_neg (i64_not_lt.mpr h6), if_neg (i64_not_lt.mpr h20)]⟩
    · refine k_lload_n 23 24 C dX0_follow_23 rfl 1 rfl ?_
      refine k_lload 24 26 C dX0_follow_24 rfl 2 rfl ?_
      refine k_ladd 26 27 C dX0_follow_26 rfl  ?_
      refine k_lret 27 C dX0_follow_27 rfl ?_
      exact ⟨rfl, by simp only [sFol]; first | rw [if_pos (i64_not_le.mp h6)] | rw [if_neg (i64_not_lt.mpr h6), if_pos (i64_not_le.mp h20)] | rw [if_neg (i64_not_lt.mpr h6), if_neg (i64_not_lt.mpr h20)]⟩
  · refine k_lload_n 9 10 C dX0_follow_9 rfl 1 rfl ?_
    refine k_lload 10 12 C dX0_follow_10 rfl 2 rfl ?_
    refine k_lsub 12 13 C dX0_follow_12 rfl  ?_
    refine k_lret 13 C dX0_follow_13 rfl ?_
    exact ⟨rfl, by simp only [sFol]; first | rw [if_pos (i64_not_le.mp h6)] | rw [if_neg (i64_not_lt.mpr h6), if_pos (i64_not_le.mp h20)] | rw [if_neg (i64_not_lt.mpr h6), if_neg (i64_not_lt.mpr h20)]⟩
set_option maxHeartbeats 4000000 in
set_option maxRecDepth 100000 in
theorem ct_X0_aim {E : gE} {T : gT} {l : Launch} {V : gV} {a b : Int64} {d f : Int32} {D : Nat} {S : Dk} {π : Nat → Nat} (hD : IsDsk T D) (hk : DK V D S π) : CtL E T l yX0_aim (gw yX0_aim cX0_aim 7 (some .long)) { frames := 0, cells := 0, slots := 0, locals := 0 } [.ref D, .long a, .long b, .int d, .int f] V (fun (r : Int64) (V' : gV) => V' = V ∧ r = sAim S a b d f) := by
  refine ctL_of (L := [(0, .ref D), (1, .long a), (3, .long b), (5, .int d), (6, .int f)]) (by decide) rfl (Nat.le_of_ble_eq_true rfl) rfl (fun p e s m args below meth c C => ?_)
  refine k_iload 0 2 C dX0_aim_0 rfl 3 rfl ?_
  refine k_i2l 2 3 C dX0_aim_2 rfl  ?_
  refine k_lload_n 3 4 C dX0_aim_3 rfl 2 rfl ?_
  refine k_lmul 4 5 C dX0_aim_4 rfl  ?_
  refine k_aload_n 5 6 C dX0_aim_5 rfl 0 rfl ?_
  refine k_get 6 9 C dX0_aim_6 rfl ci_X0 1 fl_X0_15 (IsDsk.o ‹_›) (by decide) rfl ?_
  refine k_rwI (hk.f 1 (by decide) (by decide)) ?_
  refine k_i2l 9 10 C dX0_aim_9 rfl  ?_
  refine k_lmul 10 11 C dX0_aim_10 rfl  ?_
  refine k_iload 11 13 C dX0_aim_11 rfl 4 rfl ?_
  refine k_aload_n 13 14 C dX0_aim_13 rfl 0 rfl ?_
  refine k_get 14 17 C dX0_aim_14 rfl ci_X0 0 fl_X0_9 (IsDsk.o ‹_›) (by decide) rfl ?_
  refine k_rwI (hk.f 0 (by decide) (by decide)) ?_
  refine k_imul 17 18 C dX0_aim_17 rfl  ?_
  refine k_i2l 18 19 C dX0_aim_18 rfl  ?_
  refine k_lload_n 19 20 C dX0_aim_19 rfl 1 rfl ?_
  refine k_iload 20 22 C dX0_aim_20 rfl 3 rfl ?_
  refine k_i2l 22 23 C dX0_aim_22 rfl  ?_
  refine k_lload_n 23 24 C dX0_aim_23 rfl 2 rfl ?_
  refine k_lmul 24 25 C dX0_aim_24 rfl  ?_
  refine k_lsub 25 26 C dX0_aim_25 rfl  ?_
  refine k_lmul 26 27 C dX0_aim_26 rfl  ?_
  refine k_ladd 27 28 C dX0_aim_27 rfl  ?_
  refine k_lret 28 C dX0_aim_28 rfl ?_
  exact ⟨rfl, rfl⟩
set_option maxHeartbeats 4000000 in
set_option maxRecDepth 100000 in
theorem ct_X0_wornWidth {E : gE} {T : gT} {l : Launch} {V : gV} {D : Nat} {S : Dk} {π : Nat → Nat} (hD : IsDsk T D) (hk : DK V D S π) : CtI E T l yX0_wornWidth (gw yX0_wornWidth cX0_wornWidth 1 (some .int)) { frames := 1, cells := 0, slots := 0, locals := 23 } [.ref D] V (fun (r : Int32) (V' : gV) => V' = V ∧ r = sWorn S) := by
  refine ctI_of (L := [(0, .ref D)]) (by decide) rfl (Nat.le_of_ble_eq_true rfl) rfl (fun p e s m args below meth c C => ?_)
  refine k_iconst 0 1 C dX0_wornWidth_0 rfl (v := 1) rfl ?_
  refine k_aload_n 1 2 C dX0_wornWidth_1 rfl 0 rfl ?_
  refine k_get 2 5 C dX0_wornWidth_2 rfl ci_X0 5 fl_X0_31 (IsDsk.o ‹_›) (by decide) rfl ?_
  refine k_rwI (hk.f 5 (by decide) (by decide)) ?_
  refine k_i2l 5 6 C dX0_wornWidth_5 rfl  ?_
  refine k_aload_n 6 7 C dX0_wornWidth_6 rfl 0 rfl ?_
  refine k_iconst 7 8 C dX0_wornWidth_7 rfl (v := 4) rfl ?_
  refine k_callVI 8 11 C [_] [_, _] dX0_wornWidth_8 rfl (ct_X0_setting hD hk) mi_X0_setting ml_X0_56 im_X0_setting se_X0_setting ci_X0 (IsDsk.o ‹_›) rfl rfl ⟨Nat.le_of_ble_eq_true rfl, Nat.le_of_ble_eq_true rfl⟩ (Nat.le_of_ble_eq_true rfl) (Nat.zero_le _) (Nat.zero_le _) (fun r8 V8 p8 => ?_)
  obtain ⟨rfl, rfl⟩ := And.intro p8.1.symm p8.2
  refine k_rwI (show sSet S 4 = ks S 4 from rfl) ?_
  refine k_i2l 11 12 C dX0_wornWidth_11 rfl  ?_
  refine k_callSNL 12 15 C [_, _] [_] dX0_wornWidth_12 rfl ct_X3_quotient mi_X3_quotient mn_X0_99 st_X3_quotient rfl rfl ⟨Nat.le_of_ble_eq_true rfl, Nat.le_of_ble_eq_true rfl⟩ (Nat.le_of_ble_eq_true rfl) (Nat.zero_le _) (Nat.zero_le _) (fun r12 V12 p12 => ?_)
  obtain ⟨rfl, rfl⟩ := And.intro p12.1.symm p12.2
  refine k_l2i 15 16 C dX0_wornWidth_15 rfl  ?_
  refine k_iadd 16 17 C dX0_wornWidth_16 rfl  ?_
  refine k_iret 17 C dX0_wornWidth_17 rfl ?_
  exact ⟨rfl, rfl⟩
set_option maxHeartbeats 4000000 in
set_option maxRecDepth 100000 in
theorem ct_X0_isBlunt {E : gE} {T : gT} {l : Launch} {V : gV} {D : Nat} {S : Dk} {π : Nat → Nat} (hD : IsDsk T D) (hk : DK V D S π) : CtI E T l yX0_isBlunt (gw yX0_isBlunt cX0_isBlunt 1 (some .boolean)) { frames := 2, cells := 0, slots := 0, locals := 43 } [.ref D] V (fun (r : Int32) (V' : gV) => V' = V ∧ r = bi (¬ sWorn S ≤ 9)) := by
  refine ctI_of (L := [(0, .ref D)]) (by decide) rfl (Nat.le_of_ble_eq_true rfl) rfl (fun p e s m args below meth c C => ?_)
  refine k_aload_n 0 1 C dX0_isBlunt_0 rfl 0 rfl ?_
  refine k_callVI 1 4 C [] [] dX0_isBlunt_1 rfl (ct_X0_wornWidth hD hk) mi_X0_wornWidth ml_X0_103 im_X0_wornWidth se_X0_wornWidth ci_X0 (IsDsk.o ‹_›) rfl rfl ⟨Nat.le_of_ble_eq_true rfl, Nat.le_of_ble_eq_true rfl⟩ (Nat.le_of_ble_eq_true rfl) (Nat.zero_le _) (Nat.zero_le _) (fun r1 V1 p1 => ?_)
  obtain ⟨rfl, rfl⟩ := And.intro p1.1.symm p1.2
  refine k_bipush 4 6 C dX0_isBlunt_4 rfl (v := 9) rfl ?_
  refine k_icmp_le 6 13 9 C dX0_isBlunt_6 (by decide) rfl (fun h6 => ?_) (fun h6 => ?_)
  · refine k_iconst 13 14 C dX0_isBlunt_13 rfl (v := 0) rfl ?_
    refine k_zret 14 C dX0_isBlunt_14 rfl (by first | exact Or.inl rfl | exact Or.inr rfl | exact bi_01) ?_
    exact ⟨rfl, by simp [bi, h6]⟩
  · refine k_iconst 9 10 C dX0_isBlunt_9 rfl (v := 1) rfl ?_
    refine k_goto 10 14 C dX0_isBlunt_10 (by decide) ?_
    refine k_zret 14 C dX0_isBlunt_14 rfl (by first | exact Or.inl rfl | exact Or.inr rfl | exact bi_01) ?_
    exact ⟨rfl, by simp [bi, h6]⟩
set_option maxHeartbeats 4000000 in
set_option maxRecDepth 100000 in
theorem ct_X0_hasCopies {E : gE} {T : gT} {l : Launch} {V : gV} {num : Int32} {D : Nat} {S : Dk} {π : Nat → Nat} (hD : IsDsk T D) (hk : DK V D S π) : CtI E T l yX0_hasCopies (gw yX0_hasCopies cX0_hasCopies 4 (some .boolean)) { frames := 1, cells := 0, slots := 0, locals := 21 } [.ref D, .int num] V (fun (r : Int32) (V' : gV) => V' = V ∧ r = bi (hcp S num (kn S) = true)) := by
  refine ctI_of (L := [(0, .ref D), (1, .int num)]) (by decide) rfl (Nat.le_of_ble_eq_true rfl) rfl (fun p e s m args below meth c C => ?_)
  have loop2 : ∀ (f : Nat) (j : Nat), kn S - j = f → (j ≤ kn S) → (hcp S num j = false) → KW E T V p l e { frames := 1, cells := 0, slots := 0, locals := 21 } s m args below meth c 4 0 0 (MQ below (va_Qi (fun (r : Int32) (V' : gV) => V' = V ∧ r = bi (hcp S num (kn S) = true)) (RepS E T) (gA E)) args s 0 0 (gA E)) 2 [(2, .int (nI j)), (0, .ref D), (1, .int num)] [] := by
    intro f
    induction f using Nat.strongRecOn with
    | _ f ih =>
    intro j hf hj hc
    refine k_iload_n 2 3 C dX0_hasCopies_2 rfl 0 rfl ?_
    refine k_aload_n 3 4 C dX0_hasCopies_3 rfl 1 rfl ?_
    refine k_get 4 7 C dX0_hasCopies_4 rfl ci_X0 11 fl_X0_52 (IsDsk.o ‹_›) (by decide) rfl ?_
    refine k_rwI (hk.n) ?_
    refine k_icmp_ge 7 36 10 C dX0_hasCopies_7 (by decide) rfl (fun h7 => ?_) (fun h7 => ?_)
    · rw [n6 (by have := hk.le; omega) (by have := hk.le; omega)] at h7
      obtain rfl : j = kn S := by omega
      refine k_iconst 36 37 C dX0_hasCopies_36 rfl (v := 0) rfl ?_
      refine k_zret 37 C dX0_hasCopies_37 rfl (by first | exact Or.inl rfl | exact Or.inr rfl | exact bi_01) ?_
      exact ⟨rfl, (bi_f (by simp [hc])).symm⟩
    · rw [n6 (by have := hk.le; omega) (by have := hk.le; omega)] at h7
      have hj2 : j < kn S := by omega
      have hq := hD.d (π j) (hk.p j (by have := hk.le; omega))
      have hv := hk.d j hj2
      refine k_aload_n 10 11 C dX0_hasCopies_10 rfl 1 rfl ?_
      refine k_iload_n 11 12 C dX0_hasCopies_11 rfl 0 rfl ?_
      refine k_callVQ 12 15 C [_] [] dX0_hasCopies_12 rfl (ct_X0_find hD hk) mi_X0_find ml_X0_60 im_X0_find se_X0_find ci_X0 (IsDsk.o ‹_›) rfl rfl ⟨Nat.le_of_ble_eq_true rfl, Nat.le_of_ble_eq_true rfl⟩ (Nat.le_of_ble_eq_true rfl) (Nat.zero_le _) (Nat.zero_le _) (fun r12 V12 p12 => ?_)
      obtain ⟨rfl, rfl⟩ := And.intro p12.1.symm p12.2
      refine k_rwQ (sFind_at hk.le hj2) ?_
      refine k_astore_n 15 16 C [(3, _), (2, _), (0, _), (1, _)] dX0_hasCopies_15 rfl (by decide) rfl ?_
      refine k_aload_n 16 17 C dX0_hasCopies_16 rfl 0 rfl ?_
      refine k_ifnullO 17 20 C dX0_hasCopies_17 rfl ?_
      refine k_aload_n 20 21 C dX0_hasCopies_20 rfl 0 rfl ?_
      refine k_getN 21 24 C dX0_hasCopies_21 rfl ci_X1 0 fn_X0_76 (IsDrw.o hq) (by decide) rfl ?_
      refine k_rwI (hv.f0) ?_
      refine k_iload_n 24 25 C dX0_hasCopies_24 rfl 3 rfl ?_
      refine k_icmp_ne 25 30 28 C dX0_hasCopies_25 (by decide) rfl (fun h25 => ?_) (fun h25 => ?_)
      · refine k_iinc 30 33 C [(2, _), (3, _), (0, _), (1, _)] (nI (j + 1)) dX0_hasCopies_30 rfl 1 rfl (nI_1 j) (by decide) rfl ?_
        refine k_goto 33 2 C dX0_hasCopies_33 (by decide) ?_
        refine k_perm [0, 2, 3] (L' := [(2, _), (0, _), (1, _)]) rfl ?_
        exact ih (kn S - (j + 1)) (by omega) (j + 1) rfl (by omega) (by simp [hcp, hc, h25])
      · refine k_iconst 28 29 C dX0_hasCopies_28 rfl (v := 1) rfl ?_
        refine k_zret 29 C dX0_hasCopies_29 rfl (by first | exact Or.inl rfl | exact Or.inr rfl | exact bi_01) ?_
        exact ⟨rfl, (bi_t (hcp_mono hj2 (by simpa using h25))).symm⟩
  refine k_iconst 0 1 C dX0_hasCopies_0 rfl (v := 0) rfl ?_
  refine k_istore_n 1 2 C [(2, _), (0, _), (1, _)] dX0_hasCopies_1 rfl (by decide) rfl ?_
  exact loop2 _ 0 rfl (Nat.zero_le _) rfl

