/-! the text: characters, length; the state of its parse: at, fault's place, reason, points -/
abbrev Pt : Type := Nat × Int32 × Int32 × Nat × (Nat → Int32) × (Nat → Int32) × (Nat → Int32)
def pat (P : Pt) : Nat := P.1
def pfa (P : Pt) : Int32 := P.2.1
def prs (P : Pt) : Int32 := P.2.2.1
def pm (P : Pt) : Nat := P.2.2.2.1
def pxs (P : Pt) : Nat → Int32 := P.2.2.2.2.1
def pys (P : Pt) : Nat → Int32 := P.2.2.2.2.2.1
def pjn (P : Pt) : Nat → Int32 := P.2.2.2.2.2.2
def TC (V : gV) (t : Nat) (cs : Nat → Int32) (n : Nat) : Prop := V.1 t 1 = nI n ∧ n ≤ 100 ∧ ∀ i, i < n → V.1 (t + 1) i = cs i ∧ 32 ≤ (cs i).toInt ∧ (cs i).toInt ≤ 126
def TX (V : gV) (t : Nat) (cs : Nat → Int32) (n : Nat) (P : Pt) : Prop := TC V t cs n ∧ V.1 t 2 = nI (pat P) ∧ pat P ≤ n ∧ V.1 t 3 = pfa P ∧ V.1 t 4 = prs P ∧ V.1 t 8 = nI (pm P) ∧ pm P ≤ 20 ∧ ∀ i, i < pm P → V.1 (t + 2) i = pxs P i ∧ V.1 (t + 3) i = pys P i ∧ V.1 (t + 4) i = pjn P i
section TXS
variable {V : gV} {t : Nat} {cs : Nat → Int32} {n : Nat} {P : Pt}
theorem TX.len (h : TX V t cs n P) : V.1 t 1 = nI n := h.1.1
theorem TX.n100 (h : TX V t cs n P) : n ≤ 100 := h.1.2.1
theorem TX.ch (h : TX V t cs n P) (i : Nat) (hi : i < n) : V.1 (t + 1) i = cs i := (h.1.2.2 i hi).1
theorem TX.rng (h : TX V t cs n P) (i : Nat) (hi : i < n) : 32 ≤ (cs i).toInt ∧ (cs i).toInt ≤ 126 := (h.1.2.2 i hi).2
theorem TX.at_ (h : TX V t cs n P) : V.1 t 2 = nI (pat P) := h.2.1
theorem TX.le (h : TX V t cs n P) : pat P ≤ n := h.2.2.1
theorem TX.fa (h : TX V t cs n P) : V.1 t 3 = pfa P := h.2.2.2.1
theorem TX.rs (h : TX V t cs n P) : V.1 t 4 = prs P := h.2.2.2.2.1
theorem TX.m (h : TX V t cs n P) : V.1 t 8 = nI (pm P) := h.2.2.2.2.2.1
theorem TX.m20 (h : TX V t cs n P) : pm P ≤ 20 := h.2.2.2.2.2.2.1
theorem TX.pt (h : TX V t cs n P) (i : Nat) (hi : i < pm P) : V.1 (t + 2) i = pxs P i ∧ V.1 (t + 3) i = pys P i ∧ V.1 (t + 4) i = pjn P i := h.2.2.2.2.2.2.2 i hi
end TXS
theorem TC.off {V V' : gV} {t lo hi : Nat} {cs : Nat → Int32} {n : Nat} (h : TC V t cs n) (ho : Off V V' lo hi) (hb : t + 5 ≤ lo ∨ hi ≤ t) : TC V' t cs n := by
  have e0 := (ho t (by omega)).1
  have e1 := (ho (t + 1) (by omega)).1
  unfold TC; rw [e0, e1]; exact h
def hereC (cs : Nat → Int32) (n a : Nat) : Int32 := if a < n then cs a else 0
def pAt (P : Pt) (a : Nat) : Pt := (a, P.2)
def pFail (P : Pt) (p r : Int32) : Pt := if prs P = 0 then (pat P, p, r, P.2.2.2) else P
def pFH (P : Pt) (n : Nat) : Pt := pFail P (nI (pat P)) (if pat P < n then 1 else 2)
def pExp (cs : Nat → Int32) (n : Nat) (P : Pt) (ch : Int32) : Pt := if prs P = 0 then (if hereC cs n (pat P) = ch then pAt P (pat P + 1) else pFH P n) else P
def dig (cs : Nat → Int32) (n : Nat) : Nat → Nat → Int32 → Nat × Int32
  | 0, a, v => (a, v)
  | k + 1, a, v => if ¬ hereC cs n a < 48 ∧ ¬ 57 < hereC cs n a then dig cs n k (a + 1) (v * 10 + hereC cs n a - 48) else (a, v)
def pNum (cs : Nat → Int32) (n : Nat) (P : Pt) : Pt × Int32 := (if (dig cs n 4 (pat P) 0).1 = pat P then pFH (pAt P (dig cs n 4 (pat P) 0).1) n else if ¬ (dig cs n 4 (pat P) 0).2 ≤ 1000 then pFail (pAt P (dig cs n 4 (pat P) 0).1) (nI (pat P)) 3 else pAt P (dig cs n 4 (pat P) 0).1, (dig cs n 4 (pat P) 0).2)
def pPush (P : Pt) (x y j : Int32) : Pt := (pat P, pfa P, prs P, pm P + 1, va_up (pxs P) (pm P) x, va_up (pys P) (pm P) y, va_up (pjn P) (pm P) j)
def pPre (cs : Nat → Int32) (n : Nat) (P : Pt) : Pt := if pm P < 20 then P else if ¬ hereC cs n (pat P) < 48 ∧ ¬ 57 < hereC cs n (pat P) then pFail P (nI (pat P)) 4 else P
def pMid (cs : Nat → Int32) (n : Nat) (P : Pt) : Pt := pExp cs n (pNum cs n (pPre cs n P)).1 44
def pEnd (P : Pt) (x y j : Int32) : Pt := if prs P = 0 ∧ pm P < 20 then pPush P x y j else P
def pPoint (cs : Nat → Int32) (n : Nat) (P : Pt) (j : Int32) : Pt := pEnd (pNum cs n (pMid cs n P)).1 (pNum cs n (pPre cs n P)).2 (pNum cs n (pMid cs n P)).2 j
def pStep (cs : Nat → Int32) (n : Nat) (P : Pt) : Pt × Int32 := if prs P = 0 ∧ (hereC cs n (pat P) = 45 ∨ hereC cs n (pat P) = 32) then (pAt P (pat P + 1), 1) else (P, 0)
def pLoop (cs : Nat → Int32) (n : Nat) : Nat → Pt → Int32 → Int32 → Pt
  | 0, P, _, _ => P
  | k + 1, P, j, h => if h = 0 then P else pLoop cs n k (pStep cs n (pPoint cs n P j)).1 (bi (hereC cs n (pat (pPoint cs n P j)) = 45)) (pStep cs n (pPoint cs n P j)).2
def pFin (cs : Nat → Int32) (n : Nat) (P : Pt) : Pt := if prs (pExp cs n P 46) = 0 ∧ pat (pExp cs n P 46) < n then pFH (pExp cs n P 46) n else pExp cs n P 46
def pParse (cs : Nat → Int32) (n : Nat) (fa : Int32) (xs ys jn : Nat → Int32) : Pt := pFin cs n (pLoop cs n 21 (0, fa, 0, 0, xs, ys, jn) 0 1)
theorem n100 {a b : Nat} (ha : a ≤ 101) (hb : b ≤ 101) : nI a ≤ nI b ↔ a ≤ b := nI_leI (by omega) (by omega)
section TXW
variable {V : gV} {t : Nat} {cs : Nat → Int32} {n : Nat} {P : Pt}
theorem wIt {k : Nat} {x : Int32} {b : Nat} (hb : b ≠ t) : (wI V t k x).1 b = V.1 b := (wI_off b hb).1
theorem TC.fld (h : TC V t cs n) {k : Nat} {x : Int32} (hk : k ≠ 1) : TC (wI V t k x) t cs n := by
  obtain ⟨h1, h2, h3⟩ := h
  refine ⟨?_, h2, fun i hi => by rw [wIt (by omega)]; exact h3 i hi⟩
  simp only [wI, upd, if_true, show ¬ 1 = k from fun z => hk z.symm, if_false]; exact h1
theorem TX.adv (h : TX V t cs n P) {a : Nat} (ha : a ≤ n) : TX (wI V t 2 (nI a)) t cs n (pAt P a) := by
  obtain ⟨h1, h2, h3, h4, h5, h6, h7, h8⟩ := h
  exact ⟨h1.fld (by decide), by simp [wI, upd, pat, pAt], ha, by simp [wI, upd]; exact h4, by simp [wI, upd]; exact h5, by simp [wI, upd]; exact h6, h7, fun i hi => by rw [wIt (by omega), wIt (by omega), wIt (by omega)]; exact h8 i hi⟩
theorem TX.fl (h : TX V t cs n P) {p r : Int32} : TX (wI (wI V t 3 p) t 4 r) t cs n (pat P, p, r, P.2.2.2) := by
  obtain ⟨h1, h2, h3, h4, h5, h6, h7, h8⟩ := h
  exact ⟨(h1.fld (by decide)).fld (by decide), by simp [wI, upd]; exact h2, h3, by simp [wI, upd, pfa], by simp [wI, upd, prs], by simp [wI, upd]; exact h6, h7, fun i hi => by rw [wIt (by omega), wIt (by omega), wIt (by omega), wIt (by omega), wIt (by omega), wIt (by omega)]; exact h8 i hi⟩
theorem TX.push (h : TX V t cs n P) (hm : pm P < 20) (x y j : Int32) : TX (wI (wI (wI (wI V (t + 2) (pm P) x) (t + 3) (pm P) y) (t + 4) (pm P) j) t 8 (nI (pm P + 1))) t cs n (pPush P x y j) := by
  obtain ⟨⟨g1, g2, g3⟩, h2, h3, h4, h5, h6, h7, h8⟩ := h
  refine ⟨⟨by simp [wI, upd]; exact g1, g2, fun i hi => by simp [wI]; exact g3 i hi⟩, by simp [wI, upd]; exact h2, h3, by simp [wI, upd]; exact h4, by simp [wI, upd]; exact h5, by simp [wI, upd, pm, pPush], by show pm P + 1 ≤ 20; omega, fun i hi => ?_⟩
  have hi' : i < pm P + 1 := hi
  by_cases e : i = pm P
  · subst e; simp [wI, upd, pxs, pys, pjn, pPush, va_up]
  · have := h8 i (by omega)
    simp only [pxs, pys, pjn, pPush, va_up, e, if_false]
    simp [wI, upd, e]
    exact this
end TXW
theorem TX.congr {V V' : gV} {t : Nat} {cs : Nat → Int32} {n : Nat} {P : Pt} (h : TX V t cs n P) (e : V'.1 = V.1) : TX V' t cs n P := by
  unfold TX TC; rw [e]; exact h
theorem zchar {x : Int32} (h : 32 ≤ x.toInt ∧ x.toInt ≤ 126) : narrow .char (.int x) = .int x := by
  have e : x = nI x.toInt.toNat := by
    apply Int32.toInt_inj.mp
    rw [nI_toInt (by omega)]; omega
  rw [e]
  exact (pk_charN (by omega)).1
set_option maxHeartbeats 4000000 in
set_option maxRecDepth 100000 in
theorem ct_X2_here {E : gE} {T : gT} {l : Launch} {V : gV} {t n : Nat} {cs : Nat → Int32} {P : Pt} (hx : IsTxt T t) (ht : TX V t cs n P) : CtI E T l yX2_here (gw yX2_here cX2_here 1 (some .char)) { frames := 0, cells := 0, slots := 0, locals := 0 } [.ref t] V (fun (r : Int32) (V' : gV) => V' = V ∧ r = hereC cs n (pat P)) := by
  refine ctI_of (L := [(0, .ref t)]) (by decide) rfl (Nat.le_of_ble_eq_true rfl) rfl (fun p e s m args below meth c C => ?_)
  refine k_aload_n 0 1 C dX2_here_0 rfl 0 rfl ?_
  refine k_get 1 4 C dX2_here_1 rfl ci_X2 2 fl_X2_19 (IsTxt.o ‹_›) (by decide) rfl ?_
  refine k_rwI (ht.at_) ?_
  refine k_if_lt 4 42 7 C dX2_here_4 (by decide) rfl (fun h4 => ?_) (fun h4 => ?_)
  · exact absurd h4 (nI_pos (by have := ht.n100; have := ht.le; omega))
  · refine k_aload_n 7 8 C dX2_here_7 rfl 0 rfl ?_
    refine k_get 8 11 C dX2_here_8 rfl ci_X2 2 fl_X2_19 (IsTxt.o ‹_›) (by decide) rfl ?_
    refine k_rwI (ht.at_) ?_
    refine k_aload_n 11 12 C dX2_here_11 rfl 0 rfl ?_
    refine k_get 12 15 C dX2_here_12 rfl ci_X2 1 fl_X2_15 (IsTxt.o ‹_›) (by decide) rfl ?_
    refine k_rwI (ht.len) ?_
    refine k_icmp_ge 15 42 18 C dX2_here_15 (by decide) rfl (fun h15 => ?_) (fun h15 => ?_)
    · rw [n100 (by have := ht.n100; omega) (by have := ht.n100; have := ht.le; omega)] at h15
      have zz : ¬ pat P < n := by omega
      refine k_iconst 42 43 C dX2_here_42 rfl (v := 0) rfl ?_
      refine k_cret 43 C dX2_here_43 rfl (by first | rfl | exact zchar (ht.rng _ zz)) ?_
      exact ⟨rfl, by simp [hereC, zz]⟩
    · rw [n100 (by have := ht.n100; omega) (by have := ht.n100; have := ht.le; omega)] at h15
      have zz : pat P < n := by omega
      have z1 := ht.n100
      refine k_aload_n 18 19 C dX2_here_18 rfl 0 rfl ?_
      refine k_get 19 22 C dX2_here_19 rfl ci_X2 2 fl_X2_19 (IsTxt.o ‹_›) (by decide) rfl ?_
      refine k_rwI (ht.at_) ?_
      refine k_aload_n 22 23 C dX2_here_22 rfl 0 rfl ?_
      refine k_getF 23 26 C dX2_here_23 rfl ci_X2 0 fl_X2_9 (IsTxt.o ‹_›) (by decide) (IsTxt.f0 ‹_›) rfl ?_
      refine k_alen 26 27 C dX2_here_26 rfl (IsTxt.a0 ‹_›) (by decide) (v := 100) rfl ?_
      refine k_icmp_ge 27 42 30 C dX2_here_27 (by decide) rfl (fun h27 => ?_) (fun h27 => ?_)
      · exact absurd (show nI 100 ≤ nI (pat P) from h27) (by rw [n100 (by omega) (by omega)]; omega)
      · refine k_aload_n 30 31 C dX2_here_30 rfl 0 rfl ?_
        refine k_getF 31 34 C dX2_here_31 rfl ci_X2 0 fl_X2_9 (IsTxt.o ‹_›) (by decide) (IsTxt.f0 ‹_›) rfl ?_
        refine k_aload_n 34 35 C dX2_here_34 rfl 0 rfl ?_
        refine k_get 35 38 C dX2_here_35 rfl ci_X2 2 fl_X2_19 (IsTxt.o ‹_›) (by decide) rfl ?_
        refine k_rwI (ht.at_) ?_
        refine k_cald 38 39 C dX2_here_38 rfl (IsTxt.a0 ‹_›) (vp_in_nI (show pat P < 100 by omega) (by decide)) ?_
        rw [nI_clamp (show pat P < 2 ^ 31 by omega)]
        refine k_rwI (ht.ch _ zz) ?_
        refine k_goto 39 43 C dX2_here_39 (by decide) ?_
        refine k_cret 43 C dX2_here_43 rfl (by first | rfl | exact zchar (ht.rng _ zz)) ?_
        exact ⟨rfl, by simp [hereC, zz]⟩
set_option maxHeartbeats 4000000 in
set_option maxRecDepth 100000 in
theorem ct_X2_fail {E : gE} {T : gT} {l : Launch} {V : gV} {p0 r0 : Int32} {t n : Nat} {cs : Nat → Int32} {P : Pt} (hx : IsTxt T t) (ht : TX V t cs n P) : CtV E T l yX2_fail (gw yX2_fail cX2_fail 3 none) { frames := 0, cells := 0, slots := 0, locals := 0 } [.ref t, .int p0, .int r0] V (fun (V' : gV) => TX V' t cs n (pFail P p0 r0) ∧ Off V V' t (t + 5)) := by
  refine ctV_of (L := [(0, .ref t), (1, .int p0), (2, .int r0)]) (by decide) rfl (Nat.le_of_ble_eq_true rfl) rfl (fun p e s m args below meth c C => ?_)
  refine k_aload_n 0 1 C dX2_fail_0 rfl 0 rfl ?_
  refine k_get 1 4 C dX2_fail_1 rfl ci_X2 4 fl_X2_25 (IsTxt.o ‹_›) (by decide) rfl ?_
  refine k_rwI (ht.rs) ?_
  refine k_if_ne 4 17 7 C dX2_fail_4 (by decide) rfl (fun h4 => ?_) (fun h4 => ?_)
  · refine k_vret 17 C dX2_fail_17 rfl ?_
    first | exact ⟨by unfold pFail; rw [if_neg h4]; exact ht, Off.rf⟩ | exact ⟨by unfold pFail; rw [if_pos h4]; exact ht.fl, (by repeat (first | exact Off.rf | refine Off.wI ?_ (by omega) (by omega)))⟩
  · refine k_aload_n 7 8 C dX2_fail_7 rfl 0 rfl ?_
    refine k_iload_n 8 9 C dX2_fail_8 rfl 1 rfl ?_
    refine k_put 9 12 C dX2_fail_9 rfl ci_X2 3 fl_X2_22 (IsTxt.o ‹_›) (by decide) rfl rfl rfl wI_off (ps_2_3 _ _ _ _) ?_
    refine k_aload_n 12 13 C dX2_fail_12 rfl 0 rfl ?_
    refine k_iload_n 13 14 C dX2_fail_13 rfl 2 rfl ?_
    refine k_put 14 17 C dX2_fail_14 rfl ci_X2 4 fl_X2_25 (IsTxt.o ‹_›) (by decide) rfl rfl rfl wI_off (ps_2_4 _ _ _ _) ?_
    refine k_vret 17 C dX2_fail_17 rfl ?_
    first | exact ⟨by unfold pFail; rw [if_neg h4]; exact ht, Off.rf⟩ | exact ⟨by unfold pFail; rw [if_pos h4]; exact ht.fl, (by repeat (first | exact Off.rf | refine Off.wI ?_ (by omega) (by omega)))⟩
set_option maxHeartbeats 4000000 in
set_option maxRecDepth 100000 in
theorem ct_X2_failHere {E : gE} {T : gT} {l : Launch} {V : gV} {t n : Nat} {cs : Nat → Int32} {P : Pt} (hx : IsTxt T t) (ht : TX V t cs n P) : CtV E T l yX2_failHere (gw yX2_failHere cX2_failHere 1 none) { frames := 1, cells := 0, slots := 0, locals := 22 } [.ref t] V (fun (V' : gV) => TX V' t cs n (pFH P n) ∧ Off V V' t (t + 5)) := by
  refine ctV_of (L := [(0, .ref t)]) (by decide) rfl (Nat.le_of_ble_eq_true rfl) rfl (fun p e s m args below meth c C => ?_)
  refine k_aload_n 0 1 C dX2_failHere_0 rfl 0 rfl ?_
  refine k_aload_n 1 2 C dX2_failHere_1 rfl 0 rfl ?_
  refine k_get 2 5 C dX2_failHere_2 rfl ci_X2 2 fl_X2_19 (IsTxt.o ‹_›) (by decide) rfl ?_
  refine k_rwI (ht.at_) ?_
  refine k_aload_n 5 6 C dX2_failHere_5 rfl 0 rfl ?_
  refine k_get 6 9 C dX2_failHere_6 rfl ci_X2 2 fl_X2_19 (IsTxt.o ‹_›) (by decide) rfl ?_
  refine k_rwI (ht.at_) ?_
  refine k_aload_n 9 10 C dX2_failHere_9 rfl 0 rfl ?_
  refine k_get 10 13 C dX2_failHere_10 rfl ci_X2 1 fl_X2_15 (IsTxt.o ‹_›) (by decide) rfl ?_
  refine k_rwI (ht.len) ?_
  refine k_icmp_ge 13 20 16 C dX2_failHere_13 (by decide) rfl (fun h13 => ?_) (fun h13 => ?_)
  · rw [n100 (by have := ht.n100; omega) (by have := ht.n100; have := ht.le; omega)] at h13
    have zz : ¬ pat P < n := by omega
    refine k_iconst 20 21 C dX2_failHere_20 rfl (v := 2) rfl ?_
    refine k_callVV 21 24 C [_, _] [] dX2_failHere_21 rfl (ct_X2_fail hx ht) mi_X2_fail ml_X2_64 im_X2_fail se_X2_fail ci_X2 (IsTxt.o ‹_›) rfl rfl ⟨Nat.le_of_ble_eq_true rfl, Nat.le_of_ble_eq_true rfl⟩ (Nat.le_of_ble_eq_true rfl) (Nat.zero_le _) (Nat.zero_le _) (fun V21 p21 => ?_)
    refine k_vret 24 C dX2_failHere_24 rfl ?_
    exact ⟨by unfold pFH; simp only [zz, if_true, if_false]; exact p21.1, p21.2⟩
  · rw [n100 (by have := ht.n100; omega) (by have := ht.n100; have := ht.le; omega)] at h13
    have zz : pat P < n := by omega
    refine k_iconst 16 17 C dX2_failHere_16 rfl (v := 1) rfl ?_
    refine k_goto 17 21 C dX2_failHere_17 (by decide) ?_
    refine k_callVV 21 24 C [_, _] [] dX2_failHere_21 rfl (ct_X2_fail hx ht) mi_X2_fail ml_X2_64 im_X2_fail se_X2_fail ci_X2 (IsTxt.o ‹_›) rfl rfl ⟨Nat.le_of_ble_eq_true rfl, Nat.le_of_ble_eq_true rfl⟩ (Nat.le_of_ble_eq_true rfl) (Nat.zero_le _) (Nat.zero_le _) (fun V21 p21 => ?_)
    refine k_vret 24 C dX2_failHere_24 rfl ?_
    exact ⟨by unfold pFH; simp only [zz, if_true, if_false]; exact p21.1, p21.2⟩
set_option maxHeartbeats 4000000 in
set_option maxRecDepth 100000 in
theorem ct_X2_accept {E : gE} {T : gT} {l : Launch} {V : gV} {ch : Int32} {t n : Nat} {cs : Nat → Int32} {P : Pt} (hx : IsTxt T t) (ht : TX V t cs n P) (hc : ¬ ch = 0) : CtI E T l yX2_accept (gw yX2_accept cX2_accept 2 (some .boolean)) { frames := 1, cells := 0, slots := 0, locals := 20 } [.ref t, .int ch] V (fun (r : Int32) (V' : gV) => r = bi (hereC cs n (pat P) = ch) ∧ TX V' t cs n (if hereC cs n (pat P) = ch then pAt P (pat P + 1) else P) ∧ Off V V' t (t + 5)) := by
  refine ctI_of (L := [(0, .ref t), (1, .int ch)]) (by decide) rfl (Nat.le_of_ble_eq_true rfl) rfl (fun p e s m args below meth c C => ?_)
  refine k_aload_n 0 1 C dX2_accept_0 rfl 0 rfl ?_
  refine k_callVI 1 4 C [] [] dX2_accept_1 rfl (ct_X2_here hx ht) mi_X2_here ml_X2_46 im_X2_here se_X2_here ci_X2 (IsTxt.o ‹_›) rfl rfl ⟨Nat.le_of_ble_eq_true rfl, Nat.le_of_ble_eq_true rfl⟩ (Nat.le_of_ble_eq_true rfl) (Nat.zero_le _) (Nat.zero_le _) (fun r1 V1 p1 => ?_)
  obtain ⟨rfl, rfl⟩ := And.intro p1.1.symm p1.2
  refine k_iload_n 4 5 C dX2_accept_4 rfl 1 rfl ?_
  refine k_icmp_eq 5 10 8 C dX2_accept_5 (by decide) rfl (fun h5 => ?_) (fun h5 => ?_)
  · have zl : pat P < n := by
      rcases Nat.lt_or_ge (pat P) n with zz | zz
      · exact zz
      · exact absurd (show ch = 0 by rw [← h5]; unfold hereC; rw [if_neg (by omega)]) hc
    refine k_aload_n 10 11 C dX2_accept_10 rfl 0 rfl ?_
    refine k_dup 11 12 C dX2_accept_11 rfl rfl ?_
    refine k_get 12 15 C dX2_accept_12 rfl ci_X2 2 fl_X2_19 (IsTxt.o ‹_›) (by decide) rfl ?_
    refine k_rwI (ht.at_) ?_
    refine k_iconst 15 16 C dX2_accept_15 rfl (v := 1) rfl ?_
    refine k_iadd 16 17 C dX2_accept_16 rfl  ?_
    refine k_rwI (nI_1 _) ?_
    refine k_put 17 20 C dX2_accept_17 rfl ci_X2 2 fl_X2_19 (IsTxt.o ‹_›) (by decide) rfl rfl rfl wI_off (ps_2_2 _ _ _ _) ?_
    refine k_iconst 20 21 C dX2_accept_20 rfl (v := 1) rfl ?_
    refine k_zret 21 C dX2_accept_21 rfl (by first | exact Or.inl rfl | exact Or.inr rfl | exact bi_01) ?_
    exact ⟨(bi_t h5).symm, by rw [if_pos h5]; exact ht.adv (by omega), (by repeat (first | exact Off.rf | refine Off.wI ?_ (by omega) (by omega)))⟩
  · refine k_iconst 8 9 C dX2_accept_8 rfl (v := 0) rfl ?_
    refine k_zret 9 C dX2_accept_9 rfl (by first | exact Or.inl rfl | exact Or.inr rfl | exact bi_01) ?_
    exact ⟨(bi_f h5).symm, by rw [if_neg h5]; exact ht, Off.rf⟩
set_option maxHeartbeats 4000000 in
set_option maxRecDepth 100000 in
theorem ct_X2_expect {E : gE} {T : gT} {l : Launch} {V : gV} {ch : Int32} {t n : Nat} {cs : Nat → Int32} {P : Pt} (hx : IsTxt T t) (ht : TX V t cs n P) (hc : ¬ ch = 0) : CtV E T l yX2_expect (gw yX2_expect cX2_expect 2 none) { frames := 2, cells := 0, slots := 0, locals := 42 } [.ref t, .int ch] V (fun (V' : gV) => TX V' t cs n (pExp cs n P ch) ∧ Off V V' t (t + 5)) := by
  refine ctV_of (L := [(0, .ref t), (1, .int ch)]) (by decide) rfl (Nat.le_of_ble_eq_true rfl) rfl (fun p e s m args below meth c C => ?_)
  refine k_aload_n 0 1 C dX2_expect_0 rfl 0 rfl ?_
  refine k_get 1 4 C dX2_expect_1 rfl ci_X2 4 fl_X2_25 (IsTxt.o ‹_›) (by decide) rfl ?_
  refine k_rwI (ht.rs) ?_
  refine k_if_ne 4 19 7 C dX2_expect_4 (by decide) rfl (fun h4 => ?_) (fun h4 => ?_)
  · refine k_vret 19 C dX2_expect_19 rfl ?_
    first | exact ⟨by unfold pExp; rw [if_neg h4]; exact ht, Off.rf⟩ | exact ⟨by unfold pExp; rw [if_pos h4, if_pos h12]; exact z1, z2⟩ | exact ⟨by unfold pExp; rw [if_pos h4, if_neg h12]; exact p16.1, z2.trans p16.2⟩
  · refine k_aload_n 7 8 C dX2_expect_7 rfl 0 rfl ?_
    refine k_iload_n 8 9 C dX2_expect_8 rfl 1 rfl ?_
    refine k_callVI 9 12 C [_] [] dX2_expect_9 rfl (ct_X2_accept hx ht hc) mi_X2_accept ml_X2_50 im_X2_accept se_X2_accept ci_X2 (IsTxt.o ‹_›) rfl rfl ⟨Nat.le_of_ble_eq_true rfl, Nat.le_of_ble_eq_true rfl⟩ (Nat.le_of_ble_eq_true rfl) (Nat.zero_le _) (Nat.zero_le _) (fun r9 V9 p9 => ?_)
    obtain ⟨rfl, z1, z2⟩ := p9
    refine k_ifb_ne 12 19 15 C dX2_expect_12 (by decide) rfl (fun h12 => ?_) (fun h12 => ?_)
    · rw [if_pos h12] at z1
      refine k_vret 19 C dX2_expect_19 rfl ?_
      first | exact ⟨by unfold pExp; rw [if_neg h4]; exact ht, Off.rf⟩ | exact ⟨by unfold pExp; rw [if_pos h4, if_pos h12]; exact z1, z2⟩ | exact ⟨by unfold pExp; rw [if_pos h4, if_neg h12]; exact p16.1, z2.trans p16.2⟩
    · rw [if_neg h12] at z1
      refine k_aload_n 15 16 C dX2_expect_15 rfl 0 rfl ?_
      refine k_callVV 16 19 C [] [] dX2_expect_16 rfl (ct_X2_failHere hx z1) mi_X2_failHere ml_X2_58 im_X2_failHere se_X2_failHere ci_X2 (IsTxt.o ‹_›) rfl rfl ⟨Nat.le_of_ble_eq_true rfl, Nat.le_of_ble_eq_true rfl⟩ (Nat.le_of_ble_eq_true rfl) (Nat.zero_le _) (Nat.zero_le _) (fun V16 p16 => ?_)
      refine k_vret 19 C dX2_expect_19 rfl ?_
      first | exact ⟨by unfold pExp; rw [if_neg h4]; exact ht, Off.rf⟩ | exact ⟨by unfold pExp; rw [if_pos h4, if_pos h12]; exact z1, z2⟩ | exact ⟨by unfold pExp; rw [if_pos h4, if_neg h12]; exact p16.1, z2.trans p16.2⟩
theorem dig_le (cs : Nat → Int32) (n : Nat) : ∀ (k a : Nat) (v : Int32), a ≤ n → a ≤ (dig cs n k a v).1 ∧ (dig cs n k a v).1 ≤ n
  | 0, a, v, h => ⟨Nat.le_refl _, h⟩
  | k + 1, a, v, h => by
    simp only [dig]
    split
    · next hc =>
        have hl : a < n := by
          rcases Nat.lt_or_ge a n with z | z
          · exact z
          · exact absurd (show hereC cs n a < 48 by unfold hereC; rw [if_neg (by omega)]; decide) hc.1
        have := dig_le cs n k (a + 1) (v * 10 + hereC cs n a - 48) (by omega)
        omega
    · exact ⟨Nat.le_refl _, h⟩
theorem dig_lt {cs : Nat → Int32} {n a : Nat} (hc : ¬ hereC cs n a < 48 ∧ ¬ 57 < hereC cs n a) : a < n := by
  rcases Nat.lt_or_ge a n with z | z
  · exact z
  · exact absurd (show hereC cs n a < 48 by unfold hereC; rw [if_neg (by omega)]; decide) hc.1
set_option maxHeartbeats 4000000 in
set_option maxRecDepth 100000 in
theorem ct_X2_parseNumber {E : gE} {T : gT} {l : Launch} {V : gV} {t n : Nat} {cs : Nat → Int32} {P : Pt} (hx : IsTxt T t) (ht : TX V t cs n P) : CtI E T l yX2_parseNumber (gw yX2_parseNumber cX2_parseNumber 4 (some .int)) { frames := 2, cells := 0, slots := 0, locals := 42 } [.ref t] V (fun (r : Int32) (V' : gV) => r = (pNum cs n P).2 ∧ TX V' t cs n (pNum cs n P).1 ∧ Off V V' t (t + 5)) := by
  refine ctI_of (L := [(0, .ref t)]) (by decide) rfl (Nat.le_of_ble_eq_true rfl) rfl (fun p e s m args below meth c C => ?_)
  have loop9 : ∀ (f : Nat) (V1 : gV) (k a : Nat) (v : Int32), 4 - k = f → (k ≤ 4) → (TX V1 t cs n (pAt P a)) → (dig cs n (4 - k) a v = dig cs n 4 (pat P) 0) → (Off V V1 t (t + 5)) → KW E T V1 p l e { frames := 2, cells := 0, slots := 0, locals := 42 } s m args below meth c 4 0 0 (MQ below (va_Qi (fun (r : Int32) (V' : gV) => r = (pNum cs n P).2 ∧ TX V' t cs n (pNum cs n P).1 ∧ Off V V' t (t + 5)) (RepS E T) (gA E)) args s 0 0 (gA E)) 9 [(3, .int (nI k)), (2, .int v), (1, .int (nI (pat P))), (0, .ref t)] [] := by
    intro f
    induction f using Nat.strongRecOn with
    | _ f ih =>
    intro V1 k a v hf hk g1 g2 g3
    refine k_iload_n 9 10 C dX2_parseNumber_9 rfl 0 rfl ?_
    refine k_iconst 10 11 C dX2_parseNumber_10 rfl (v := 4) rfl ?_
    refine k_icmp_ge 11 53 14 C dX2_parseNumber_11 (by decide) rfl (fun h11 => ?_) (fun h11 => ?_)
    · have z11 : nI 4 ≤ nI k := h11
      rw [n6 (by omega) (by omega)] at z11
      obtain rfl : k = 4 := by omega
      have zd : dig cs n 4 (pat P) 0 = (a, v) := by rw [← g2]; rfl
      refine k_aload_n 53 54 C dX2_parseNumber_53 rfl 3 rfl ?_
      refine k_get 54 57 C dX2_parseNumber_54 rfl ci_X2 2 fl_X2_19 (IsTxt.o ‹_›) (by decide) rfl ?_
      refine k_rwI (y := nI a) g1.at_ ?_
      refine k_iload_n 57 58 C dX2_parseNumber_57 rfl 2 rfl ?_
      refine k_icmp_ne 58 68 61 C dX2_parseNumber_58 (by decide) rfl (fun h58 => ?_) (fun h58 => ?_)
      · have zn : ¬ a = pat P := fun zz => h58 (by rw [zz])
        refine k_iload_n 68 69 C dX2_parseNumber_68 rfl 1 rfl ?_
        refine k_sipush 69 72 C dX2_parseNumber_69 rfl (v := 1000) rfl ?_
        refine k_icmp_le 72 81 75 C dX2_parseNumber_72 (by decide) rfl (fun h72 => ?_) (fun h72 => ?_)
        · refine k_iload_n 81 82 C dX2_parseNumber_81 rfl 1 rfl ?_
          refine k_iret 82 C dX2_parseNumber_82 rfl ?_
          first
            | exact ⟨by unfold pNum; rw [zd], by unfold pNum; simp only [zd]; rw [if_pos zn]; exact p62.1, g3.trans p62.2⟩
            | exact ⟨by unfold pNum; rw [zd], by unfold pNum; simp only [zd]; rw [if_neg zn, if_pos h72]; exact p78.1, g3.trans p78.2⟩
            | exact ⟨by unfold pNum; rw [zd], by unfold pNum; simp only [zd]; rw [if_neg zn, if_neg (Classical.not_not.mpr h72)]; exact g1, g3⟩
        · refine k_aload_n 75 76 C dX2_parseNumber_75 rfl 3 rfl ?_
          refine k_iload_n 76 77 C dX2_parseNumber_76 rfl 2 rfl ?_
          refine k_iconst 77 78 C dX2_parseNumber_77 rfl (v := 3) rfl ?_
          refine k_callVV 78 81 C [_, _] [] dX2_parseNumber_78 rfl (ct_X2_fail hx g1) mi_X2_fail ml_X2_64 im_X2_fail se_X2_fail ci_X2 (IsTxt.o ‹_›) rfl rfl ⟨Nat.le_of_ble_eq_true rfl, Nat.le_of_ble_eq_true rfl⟩ (Nat.le_of_ble_eq_true rfl) (Nat.zero_le _) (Nat.zero_le _) (fun V78 p78 => ?_)
          refine k_iload_n 81 82 C dX2_parseNumber_81 rfl 1 rfl ?_
          refine k_iret 82 C dX2_parseNumber_82 rfl ?_
          first
            | exact ⟨by unfold pNum; rw [zd], by unfold pNum; simp only [zd]; rw [if_pos zn]; exact p62.1, g3.trans p62.2⟩
            | exact ⟨by unfold pNum; rw [zd], by unfold pNum; simp only [zd]; rw [if_neg zn, if_pos h72]; exact p78.1, g3.trans p78.2⟩
            | exact ⟨by unfold pNum; rw [zd], by unfold pNum; simp only [zd]; rw [if_neg zn, if_neg (Classical.not_not.mpr h72)]; exact g1, g3⟩
      · have zn : a = pat P := (nI_eq (by have := dig_le cs n 4 (pat P) 0 ht.le; have := g1.le; have : pat (pAt P a) = a := rfl; have := ht.n100; omega) (by have := ht.le; have := ht.n100; omega)).mp h58
        refine k_aload_n 61 62 C dX2_parseNumber_61 rfl 3 rfl ?_
        refine k_callVV 62 65 C [] [] dX2_parseNumber_62 rfl (ct_X2_failHere hx g1) mi_X2_failHere ml_X2_58 im_X2_failHere se_X2_failHere ci_X2 (IsTxt.o ‹_›) rfl rfl ⟨Nat.le_of_ble_eq_true rfl, Nat.le_of_ble_eq_true rfl⟩ (Nat.le_of_ble_eq_true rfl) (Nat.zero_le _) (Nat.zero_le _) (fun V62 p62 => ?_)
        refine k_goto 65 81 C dX2_parseNumber_65 (by decide) ?_
        refine k_iload_n 81 82 C dX2_parseNumber_81 rfl 1 rfl ?_
        refine k_iret 82 C dX2_parseNumber_82 rfl ?_
        first
          | exact ⟨by unfold pNum; rw [zd], by unfold pNum; simp only [zd]; rw [if_pos zn]; exact p62.1, g3.trans p62.2⟩
          | exact ⟨by unfold pNum; rw [zd], by unfold pNum; simp only [zd]; rw [if_neg zn, if_pos h72]; exact p78.1, g3.trans p78.2⟩
          | exact ⟨by unfold pNum; rw [zd], by unfold pNum; simp only [zd]; rw [if_neg zn, if_neg (Classical.not_not.mpr h72)]; exact g1, g3⟩
    · have z11 : ¬ nI 4 ≤ nI k := h11
      rw [n6 (by omega) (by omega)] at z11
      rw [show 4 - k = (4 - (k + 1)) + 1 by omega] at g2
      refine k_aload_n 14 15 C dX2_parseNumber_14 rfl 3 rfl ?_
      refine k_callVI 15 18 C [] [] dX2_parseNumber_15 rfl (ct_X2_here hx g1) mi_X2_here ml_X2_46 im_X2_here se_X2_here ci_X2 (IsTxt.o ‹_›) rfl rfl ⟨Nat.le_of_ble_eq_true rfl, Nat.le_of_ble_eq_true rfl⟩ (Nat.le_of_ble_eq_true rfl) (Nat.zero_le _) (Nat.zero_le _) (fun r15 V15 p15 => ?_)
      obtain ⟨rfl, rfl⟩ := And.intro p15.1.symm p15.2
      refine k_callSI 18 21 C [_] [] dX2_parseNumber_18 rfl ct_X2_isDigit mi_X2_isDigit ml_X2_61 st_X2_isDigit rfl rfl ⟨Nat.le_of_ble_eq_true rfl, Nat.le_of_ble_eq_true rfl⟩ (Nat.le_of_ble_eq_true rfl) (Nat.zero_le _) (Nat.zero_le _) (fun r18 V18 p18 => ?_)
      obtain ⟨rfl, rfl⟩ := And.intro p18.1.symm p18.2
      refine k_ifb_eq 21 53 24 C dX2_parseNumber_21 (by decide) rfl (fun h21 => ?_) (fun h21 => ?_)
      · have h21 : ¬ (¬ hereC cs n a < 48 ∧ ¬ 57 < hereC cs n a) := h21
        have zd : dig cs n 4 (pat P) 0 = (a, v) := by rw [← g2]; simp only [dig]; rw [if_neg h21]
        refine k_aload_n 53 54 C dX2_parseNumber_53 rfl 3 rfl ?_
        refine k_get 54 57 C dX2_parseNumber_54 rfl ci_X2 2 fl_X2_19 (IsTxt.o ‹_›) (by decide) rfl ?_
        refine k_rwI (y := nI a) g1.at_ ?_
        refine k_iload_n 57 58 C dX2_parseNumber_57 rfl 2 rfl ?_
        refine k_icmp_ne 58 68 61 C dX2_parseNumber_58 (by decide) rfl (fun h58 => ?_) (fun h58 => ?_)
        · have zn : ¬ a = pat P := fun zz => h58 (by rw [zz])
          refine k_iload_n 68 69 C dX2_parseNumber_68 rfl 1 rfl ?_
          refine k_sipush 69 72 C dX2_parseNumber_69 rfl (v := 1000) rfl ?_
          refine k_icmp_le 72 81 75 C dX2_parseNumber_72 (by decide) rfl (fun h72 => ?_) (fun h72 => ?_)
          · refine k_iload_n 81 82 C dX2_parseNumber_81 rfl 1 rfl ?_
            refine k_iret 82 C dX2_parseNumber_82 rfl ?_
            first
              | exact ⟨by unfold pNum; rw [zd], by unfold pNum; simp only [zd]; rw [if_pos zn]; exact p62.1, g3.trans p62.2⟩
              | exact ⟨by unfold pNum; rw [zd], by unfold pNum; simp only [zd]; rw [if_neg zn, if_pos h72]; exact p78.1, g3.trans p78.2⟩
              | exact ⟨by unfold pNum; rw [zd], by unfold pNum; simp only [zd]; rw [if_neg zn, if_neg (Classical.not_not.mpr h72)]; exact g1, g3⟩
          · refine k_aload_n 75 76 C dX2_parseNumber_75 rfl 3 rfl ?_
            refine k_iload_n 76 77 C dX2_parseNumber_76 rfl 2 rfl ?_
            refine k_iconst 77 78 C dX2_parseNumber_77 rfl (v := 3) rfl ?_
            refine k_callVV 78 81 C [_, _] [] dX2_parseNumber_78 rfl (ct_X2_fail hx g1) mi_X2_fail ml_X2_64 im_X2_fail se_X2_fail ci_X2 (IsTxt.o ‹_›) rfl rfl ⟨Nat.le_of_ble_eq_true rfl, Nat.le_of_ble_eq_true rfl⟩ (Nat.le_of_ble_eq_true rfl) (Nat.zero_le _) (Nat.zero_le _) (fun V78 p78 => ?_)
            refine k_iload_n 81 82 C dX2_parseNumber_81 rfl 1 rfl ?_
            refine k_iret 82 C dX2_parseNumber_82 rfl ?_
            first
              | exact ⟨by unfold pNum; rw [zd], by unfold pNum; simp only [zd]; rw [if_pos zn]; exact p62.1, g3.trans p62.2⟩
              | exact ⟨by unfold pNum; rw [zd], by unfold pNum; simp only [zd]; rw [if_neg zn, if_pos h72]; exact p78.1, g3.trans p78.2⟩
              | exact ⟨by unfold pNum; rw [zd], by unfold pNum; simp only [zd]; rw [if_neg zn, if_neg (Classical.not_not.mpr h72)]; exact g1, g3⟩
        · have zn : a = pat P := (nI_eq (by have := dig_le cs n 4 (pat P) 0 ht.le; have := g1.le; have : pat (pAt P a) = a := rfl; have := ht.n100; omega) (by have := ht.le; have := ht.n100; omega)).mp h58
          refine k_aload_n 61 62 C dX2_parseNumber_61 rfl 3 rfl ?_
          refine k_callVV 62 65 C [] [] dX2_parseNumber_62 rfl (ct_X2_failHere hx g1) mi_X2_failHere ml_X2_58 im_X2_failHere se_X2_failHere ci_X2 (IsTxt.o ‹_›) rfl rfl ⟨Nat.le_of_ble_eq_true rfl, Nat.le_of_ble_eq_true rfl⟩ (Nat.le_of_ble_eq_true rfl) (Nat.zero_le _) (Nat.zero_le _) (fun V62 p62 => ?_)
          refine k_goto 65 81 C dX2_parseNumber_65 (by decide) ?_
          refine k_iload_n 81 82 C dX2_parseNumber_81 rfl 1 rfl ?_
          refine k_iret 82 C dX2_parseNumber_82 rfl ?_
          first
            | exact ⟨by unfold pNum; rw [zd], by unfold pNum; simp only [zd]; rw [if_pos zn]; exact p62.1, g3.trans p62.2⟩
            | exact ⟨by unfold pNum; rw [zd], by unfold pNum; simp only [zd]; rw [if_neg zn, if_pos h72]; exact p78.1, g3.trans p78.2⟩
            | exact ⟨by unfold pNum; rw [zd], by unfold pNum; simp only [zd]; rw [if_neg zn, if_neg (Classical.not_not.mpr h72)]; exact g1, g3⟩
      · have h21 : ¬ hereC cs n a < 48 ∧ ¬ 57 < hereC cs n a := h21
        have zl := dig_lt h21
        refine k_iload_n 24 25 C dX2_parseNumber_24 rfl 1 rfl ?_
        refine k_bipush 25 27 C dX2_parseNumber_25 rfl (v := 10) rfl ?_
        refine k_imul 27 28 C dX2_parseNumber_27 rfl  ?_
        refine k_aload_n 28 29 C dX2_parseNumber_28 rfl 3 rfl ?_
        refine k_callVI 29 32 C [] [_] dX2_parseNumber_29 rfl (ct_X2_here hx g1) mi_X2_here ml_X2_46 im_X2_here se_X2_here ci_X2 (IsTxt.o ‹_›) rfl rfl ⟨Nat.le_of_ble_eq_true rfl, Nat.le_of_ble_eq_true rfl⟩ (Nat.le_of_ble_eq_true rfl) (Nat.zero_le _) (Nat.zero_le _) (fun r29 V29 p29 => ?_)
        obtain ⟨rfl, rfl⟩ := And.intro p29.1.symm p29.2
        refine k_iadd 32 33 C dX2_parseNumber_32 rfl  ?_
        refine k_bipush 33 35 C dX2_parseNumber_33 rfl (v := 48) rfl ?_
        refine k_isub 35 36 C dX2_parseNumber_35 rfl  ?_
        refine k_istore_n 36 37 C [(2, _), (3, _), (1, _), (0, _)] dX2_parseNumber_36 rfl (by decide) rfl ?_
        refine k_aload_n 37 38 C dX2_parseNumber_37 rfl 3 rfl ?_
        refine k_dup 38 39 C dX2_parseNumber_38 rfl rfl ?_
        refine k_get 39 42 C dX2_parseNumber_39 rfl ci_X2 2 fl_X2_19 (IsTxt.o ‹_›) (by decide) rfl ?_
        refine k_rwI (y := nI a) g1.at_ ?_
        refine k_iconst 42 43 C dX2_parseNumber_42 rfl (v := 1) rfl ?_
        refine k_iadd 43 44 C dX2_parseNumber_43 rfl  ?_
        refine k_rwI (nI_1 a) ?_
        refine k_put 44 47 C dX2_parseNumber_44 rfl ci_X2 2 fl_X2_19 (IsTxt.o ‹_›) (by decide) rfl rfl rfl wI_off (ps_2_2 _ _ _ _) ?_
        refine k_iinc 47 50 C [(3, _), (2, _), (1, _), (0, _)] (nI (k + 1)) dX2_parseNumber_47 rfl 1 rfl (nI_1 k) (by decide) rfl ?_
        refine k_goto 50 9 C dX2_parseNumber_50 (by decide) ?_
        exact ih (4 - (k + 1)) (by omega) _ (k + 1) (a + 1) _ rfl (by omega) (g1.adv (by omega)) (by rw [← g2]; simp only [dig]; rw [if_pos h21]; rfl) (g3.wI (Nat.le_refl t) (by omega))
  refine k_aload_n 0 1 C dX2_parseNumber_0 rfl 0 rfl ?_
  refine k_get 1 4 C dX2_parseNumber_1 rfl ci_X2 2 fl_X2_19 (IsTxt.o ‹_›) (by decide) rfl ?_
  refine k_rwI (ht.at_) ?_
  refine k_istore_n 4 5 C [(1, _), (0, _)] dX2_parseNumber_4 rfl (by decide) rfl ?_
  refine k_iconst 5 6 C dX2_parseNumber_5 rfl (v := 0) rfl ?_
  refine k_istore_n 6 7 C [(2, _), (1, _), (0, _)] dX2_parseNumber_6 rfl (by decide) rfl ?_
  refine k_iconst 7 8 C dX2_parseNumber_7 rfl (v := 0) rfl ?_
  refine k_istore_n 8 9 C [(3, _), (2, _), (1, _), (0, _)] dX2_parseNumber_8 rfl (by decide) rfl ?_
  exact loop9 _ V 0 (pat P) 0 rfl (Nat.zero_le _) ht rfl Off.rf

