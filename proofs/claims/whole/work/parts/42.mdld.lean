/-! reading -/
abbrev Rt : Type := Nat × Int32 × Int32 × (Nat → Int32)
def rat (P : Rt) : Nat := P.1
def rfr (P : Rt) : Int32 := P.2.1
def rnu (P : Rt) : Int32 := P.2.2.1
def rrd (P : Rt) : Nat → Int32 := P.2.2.2
def RQ (V : gV) (M zn : Nat) (cs : Nat → Int32) (P : Rt) : Prop := TQ V M zn cs ∧ V.1 M 8 = nI (rat P) ∧ rat P ≤ zn ∧ V.1 M 9 = rfr P ∧ V.1 M 10 = rnu P ∧ ∀ j, j < 60 → V.1 (M + 5) j = rrd P j
theorem RQ.t {V : gV} {M zn : Nat} {cs : Nat → Int32} {P : Rt} (g : RQ V M zn cs P) : TQ V M zn cs := g.1
theorem RQ.a {V : gV} {M zn : Nat} {cs : Nat → Int32} {P : Rt} (g : RQ V M zn cs P) : V.1 M 8 = nI (rat P) := g.2.1
theorem RQ.le {V : gV} {M zn : Nat} {cs : Nat → Int32} {P : Rt} (g : RQ V M zn cs P) : rat P ≤ zn := g.2.2.1
theorem RQ.fr {V : gV} {M zn : Nat} {cs : Nat → Int32} {P : Rt} (g : RQ V M zn cs P) : V.1 M 9 = rfr P := g.2.2.2.1
theorem RQ.nu {V : gV} {M zn : Nat} {cs : Nat → Int32} {P : Rt} (g : RQ V M zn cs P) : V.1 M 10 = rnu P := g.2.2.2.2.1
theorem RQ.rd {V : gV} {M zn : Nat} {cs : Nat → Int32} {P : Rt} (g : RQ V M zn cs P) : ∀ j, j < 60 → V.1 (M + 5) j = rrd P j := g.2.2.2.2.2
theorem RQ.z {V : gV} {M zn : Nat} {cs : Nat → Int32} {P : Rt} (g : RQ V M zn cs P) : zn ≤ 100 := g.1.2.1
/-- only what is read changed -/
def KtR (V V1 : gV) (M : Nat) : Prop := (∀ b, b ≠ M → b ≠ M + 5 → V1.1 b = V.1 b) ∧ (∀ j, j < 8 ∨ 10 < j → V1.1 M j = V.1 M j) ∧ V1.2 = V.2
theorem KtR.rf {V : gV} {M : Nat} : KtR V V M := ⟨fun _ _ _ => rfl, fun _ _ => rfl, rfl⟩
theorem KtR.trans {V V1 V2 : gV} {M : Nat} (h : KtR V V1 M) (h2 : KtR V1 V2 M) : KtR V V2 M := ⟨fun b x y => (h2.1 b x y).trans (h.1 b x y), fun j x => (h2.2.1 j x).trans (h.2.1 j x), h2.2.2.trans h.2.2⟩
theorem rw_M {V : gV} {M k j : Nat} {x : Int32} (h : j ≠ k) : (wI V M k x).1 M j = V.1 M j := by
  show (if M = M then upd (V.1 M) k x else _) j = _
  rw [if_pos rfl, pk_un h]
theorem rw_s {V : gV} {M k : Nat} {x : Int32} : (wI V M k x).1 M k = x := by
  show (if M = M then upd (V.1 M) k x else _) k = _
  rw [if_pos rfl, pk_us]
theorem rw_b {V : gV} {M k b : Nat} {x : Int32} (h : b ≠ M) : (wI V M k x).1 b = V.1 b := (wI_off b h).1
theorem KtR.w {V : gV} {M k : Nat} {x : Int32} (hk : 8 ≤ k ∧ k ≤ 10) : KtR V (wI V M k x) M := ⟨fun b hb _ => rw_b hb, fun j hj => rw_M (by omega), rfl⟩
theorem KtR.r {V : gV} {M k : Nat} {x : Int32} : KtR V (wI V (M + 5) k x) M := ⟨fun b _ hb => rw_b hb, fun j _ => by rw [rw_b (show M ≠ M + 5 by omega)], rfl⟩
theorem TQ.w {V V1 : gV} {M zn : Nat} {cs : Nat → Int32} (g : TQ V M zn cs) (k : KtR V V1 M) : TQ V1 M zn cs := ⟨by rw [k.2.1 5 (by omega)]; exact g.1, g.2.1, fun j hj => by rw [k.1 (M + 4) (by omega) (by omega)]; exact g.2.2 j hj⟩
def rAt (P : Rt) (a : Nat) : Rt := (a, P.2)
def rFr (P : Rt) (x : Int32) : Rt := (rat P, x, P.2.2)
def rNu (P : Rt) (x : Int32) : Rt := (rat P, rfr P, x, rrd P)
def rPu (P : Rt) (k : Nat) (x : Int32) : Rt := (rat P, rfr P, rnu P, va_up (rrd P) k x)
theorem RQ.wA {V : gV} {M zn a : Nat} {cs : Nat → Int32} {P : Rt} (g : RQ V M zn cs P) (ha : a ≤ zn) : RQ (wI V M 8 (nI a)) M zn cs (rAt P a) ∧ KtR V (wI V M 8 (nI a)) M := ⟨⟨g.t.w (KtR.w (by omega)), rw_s, ha, by rw [rw_M (by omega)]; exact g.fr, by rw [rw_M (by omega)]; exact g.nu, fun j hj => by rw [rw_b (show M + 5 ≠ M by omega)]; exact g.rd j hj⟩, KtR.w (by omega)⟩
theorem RQ.wF {V : gV} {M zn : Nat} {x : Int32} {cs : Nat → Int32} {P : Rt} (g : RQ V M zn cs P) : RQ (wI V M 9 x) M zn cs (rFr P x) ∧ KtR V (wI V M 9 x) M := ⟨⟨g.t.w (KtR.w (by omega)), by rw [rw_M (by omega)]; exact g.a, g.le, rw_s, by rw [rw_M (by omega)]; exact g.nu, fun j hj => by rw [rw_b (show M + 5 ≠ M by omega)]; exact g.rd j hj⟩, KtR.w (by omega)⟩
theorem RQ.wN {V : gV} {M zn : Nat} {x : Int32} {cs : Nat → Int32} {P : Rt} (g : RQ V M zn cs P) : RQ (wI V M 10 x) M zn cs (rNu P x) ∧ KtR V (wI V M 10 x) M := ⟨⟨g.t.w (KtR.w (by omega)), by rw [rw_M (by omega)]; exact g.a, g.le, by rw [rw_M (by omega)]; exact g.fr, rw_s, fun j hj => by rw [rw_b (show M + 5 ≠ M by omega)]; exact g.rd j hj⟩, KtR.w (by omega)⟩
theorem RQ.wP {V : gV} {M zn k : Nat} {x : Int32} {cs : Nat → Int32} {P : Rt} (g : RQ V M zn cs P) : RQ (wI V (M + 5) k x) M zn cs (rPu P k x) ∧ KtR V (wI V (M + 5) k x) M := by
  have z : (wI V (M + 5) k x).1 M = V.1 M := rw_b (by omega)
  refine ⟨⟨g.t.w KtR.r, by rw [z]; exact g.a, g.le, by rw [z]; exact g.fr, by rw [z]; exact g.nu, fun j hj => ?_⟩, KtR.r⟩
  by_cases ej : j = k
  · subst ej; rw [rw_s]; exact (va_up_self _ _ _).symm
  · rw [rw_M ej]; exact (g.rd j hj).trans (va_up_ne _ _ ej).symm
/-- the steps of a reading, threaded -/
theorem RK.t {V V1 V2 : gV} {M zn : Nat} {cs : Nat → Int32} {P : Rt} (h : KtR V V1 M) (h2 : RQ V2 M zn cs P ∧ KtR V1 V2 M) : RQ V2 M zn cs P ∧ KtR V V2 M := ⟨h2.1, h.trans h2.2⟩
def hereM (cs : Nat → Int32) (zn a : Nat) : Int32 := if a < zn then cs a else -1
def rFH (P : Rt) (zn : Nat) : Rt := rFr P (if rat P = zn then 2 else 1)
def digM (cs : Nat → Int32) (zn : Nat) : Nat → Nat → Int32 → Nat × Int32
  | 0, a, v => (a, v)
  | k + 1, a, v => if okR (hereM cs zn a) 48 57 then digM cs zn k (a + 1) (10 * v + hereM cs zn a - 48) else (a, v)
def rNum (cs : Nat → Int32) (zn : Nat) (P : Rt) : Rt × Bool :=
  if (digM cs zn 4 (rat P) 0).1 = rat P then (rFH (rNu P (digM cs zn 4 (rat P) 0).2) zn, false)
  else if ¬ (digM cs zn 4 (rat P) 0).2 ≤ 1000 then (rFr (rNu P (digM cs zn 4 (rat P) 0).2) 3, false)
  else (rAt (rNu P (digM cs zn 4 (rat P) 0).2) (digM cs zn 4 (rat P) 0).1, true)
def rPsh (P : Rt) (k : Nat) (x q : Int32) : Rt := rPu (rPu (rPu P (3 * k) x) (3 * k + 1) (rnu P)) (3 * k + 2) q
def rPt2 (cs : Nat → Int32) (zn k : Nat) (q x : Int32) (P : Rt) : Rt × Bool :=
  if hereM cs zn (rat P) = 44 then (if (rNum cs zn (rAt P (rat P + 1))).2 = true then (rPsh (rNum cs zn (rAt P (rat P + 1))).1 k x q, true) else ((rNum cs zn (rAt P (rat P + 1))).1, false)) else (rFH P zn, false)
def rPt (cs : Nat → Int32) (zn k : Nat) (q : Int32) (P : Rt) : Rt × Bool :=
  if k = 20 ∧ okR (hereM cs zn (rat P)) 48 57 then (rFr P 4, false)
  else if (rNum cs zn P).2 = true then rPt2 cs zn k q (rnu (rNum cs zn P).1) (rNum cs zn P).1 else ((rNum cs zn P).1, false)
def rLp (cs : Nat → Int32) (zn : Nat) : Nat → Nat → Int32 → Rt → Rt × Option Nat
  | 0, k, _, P => (P, none)
  | w + 1, k, q, P => if (rPt cs zn k q P).2 = true then
      (if hereM cs zn (rat (rPt cs zn k q P).1) = 45 ∨ hereM cs zn (rat (rPt cs zn k q P).1) = 32 then rLp cs zn w (k + 1) (if hereM cs zn (rat (rPt cs zn k q P).1) = 45 then 1 else 0) (rAt (rPt cs zn k q P).1 (rat (rPt cs zn k q P).1 + 1)) else ((rPt cs zn k q P).1, some (k + 1)))
      else ((rPt cs zn k q P).1, none)
def rFin (cs : Nat → Int32) (zn : Nat) (A : Rt × Option Nat) : Rt × Option Nat := match A.2 with
  | none => (A.1, none)
  | some k => if hereM cs zn (rat A.1) = 46 then (if rat A.1 + 1 = zn then (rAt A.1 (rat A.1 + 1), some k) else (rFH (rAt A.1 (rat A.1 + 1)) zn, none)) else (rFH A.1 zn, none)
def rTxt (cs : Nat → Int32) (zn : Nat) (P : Rt) : Rt × Option Nat := rFin cs zn (rLp cs zn 21 0 0 (rFr (rAt P 0) 0))
theorem nR {a b : Nat} (ha : a ≤ 200) (hb : b ≤ 200) : nI a ≤ nI b ↔ a ≤ b := nI_leI (by omega) (by omega)
theorem hereM_lt {cs : Nat → Int32} {zn a : Nat} {x : Int32} (h : hereM cs zn a = x) (hx : ¬ x = -1) : a < zn := by
  unfold hereM at h
  split at h
  · assumption
  · exact absurd h.symm hx
theorem hereM_dg {cs : Nat → Int32} {zn a : Nat} (h : okR (hereM cs zn a) 48 57) : a < zn := by
  unfold hereM at h
  split at h
  · assumption
  · exact absurd (by decide) h.1
theorem digM_le {cs : Nat → Int32} {zn : Nat} : ∀ (k a : Nat) (v : Int32), a ≤ zn → a ≤ (digM cs zn k a v).1 ∧ (digM cs zn k a v).1 ≤ zn
  | 0, a, v, h => ⟨Nat.le_refl a, h⟩
  | k + 1, a, v, h => by
    unfold digM
    split
    · rename_i z
      have := digM_le (cs := cs) k (a + 1) (10 * v + hereM cs zn a - 48) (hereM_dg z)
      omega
    · exact ⟨Nat.le_refl a, h⟩
set_option maxHeartbeats 4000000 in
set_option maxRecDepth 100000 in
theorem ct_X4_here {E : gE} {T : gT} {l : Launch} {V : gV} {M zn : Nat} {cs : Nat → Int32} {P : Rt} (hM : IsMdl T M) (hq : RQ V M zn cs P) : CtI E T l yX4_here (gw yX4_here cX4_here 1 (some .int)) { frames := 0, cells := 0, slots := 0, locals := 0 } [.ref M] V (fun (r : Int32) (V' : gV) => V' = V ∧ r = hereM cs zn (rat P)) := by
  refine ctI_of (L := [(0, .ref M)]) (by decide) rfl (Nat.le_of_ble_eq_true rfl) rfl (fun p e s m args below meth c C => ?_)
  have z4 := hq.z
  have z5 := hq.le
  refine k_aload_n 0 1 C dX4_here_0 rfl 0 rfl ?_
  refine k_get 1 4 C dX4_here_1 rfl ci_X4 8 fl_X4_194 (IsMdl.o ‹_›) (by decide) rfl ?_
  refine k_rwI (hq.a) ?_
  refine k_aload_n 4 5 C dX4_here_4 rfl 0 rfl ?_
  refine k_get 5 8 C dX4_here_5 rfl ci_X4 5 fl_X4_79 (IsMdl.o ‹_›) (by decide) rfl ?_
  refine k_rwI (hq.t.1) ?_
  refine k_icmp_ge 8 23 11 C dX4_here_8 (by decide) rfl (fun h8 => ?_) (fun h8 => ?_)
  · have z8 : ¬ rat P < zn := by
      rw [nR (by omega) (by omega)] at h8; omega
    have zr : hereM cs zn (rat P) = -1 := by unfold hereM; rw [if_neg z8]
    refine k_iconst 23 24 C dX4_here_23 rfl (v := (-1)) rfl ?_
    refine k_iret 24 C dX4_here_24 rfl ?_
    exact ⟨rfl, zr.symm⟩
  · have z8 : rat P < zn := by
      rw [nR (by omega) (by omega)] at h8; omega
    have zr : hereM cs zn (rat P) = cs (rat P) := by unfold hereM; rw [if_pos z8]
    refine k_aload_n 11 12 C dX4_here_11 rfl 0 rfl ?_
    refine k_getF 12 15 C dX4_here_12 rfl ci_X4 4 fl_X4_19 (IsMdl.o ‹_›) (by decide) (IsMdl.f4 ‹_›) rfl ?_
    refine k_aload_n 15 16 C dX4_here_15 rfl 0 rfl ?_
    refine k_get 16 19 C dX4_here_16 rfl ci_X4 8 fl_X4_194 (IsMdl.o ‹_›) (by decide) rfl ?_
    refine k_rwI (hq.a) ?_
    refine k_iald 19 20 C dX4_here_19 rfl (IsMdl.a4 ‹_›) (vp_in_nI (show rat P < 100 by omega) (by decide)) ?_
    rw [nI_clamp (show rat P < 2 ^ 31 by omega)]
    refine k_rwI (y := cs (rat P)) (hq.t.2.2 _ z8) ?_
    refine k_goto 20 24 C dX4_here_20 (by decide) ?_
    refine k_iret 24 C dX4_here_24 rfl ?_
    exact ⟨rfl, zr.symm⟩
set_option maxHeartbeats 4000000 in
set_option maxRecDepth 100000 in
theorem ct_X4_isFault {E : gE} {T : gT} {l : Launch} {V : gV} {M zn : Nat} {cs : Nat → Int32} {P : Rt} (hM : IsMdl T M) (hq : RQ V M zn cs P) : CtI E T l yX4_isFault (gw yX4_isFault cX4_isFault 1 (some .boolean)) { frames := 0, cells := 0, slots := 0, locals := 0 } [.ref M] V (fun (r : Int32) (V' : gV) => r = 0 ∧ RQ V' M zn cs (rFH P zn) ∧ KtR V V' M) := by
  refine ctI_of (L := [(0, .ref M)]) (by decide) rfl (Nat.le_of_ble_eq_true rfl) rfl (fun p e s m args below meth c C => ?_)
  have z4 := hq.z
  have z5 := hq.le
  refine k_aload_n 0 1 C dX4_isFault_0 rfl 0 rfl ?_
  refine k_aload_n 1 2 C dX4_isFault_1 rfl 0 rfl ?_
  refine k_get 2 5 C dX4_isFault_2 rfl ci_X4 8 fl_X4_194 (IsMdl.o ‹_›) (by decide) rfl ?_
  refine k_rwI (hq.a) ?_
  refine k_aload_n 5 6 C dX4_isFault_5 rfl 0 rfl ?_
  refine k_get 6 9 C dX4_isFault_6 rfl ci_X4 5 fl_X4_79 (IsMdl.o ‹_›) (by decide) rfl ?_
  refine k_rwI (hq.t.1) ?_
  refine k_icmp_ne 9 16 12 C dX4_isFault_9 (by decide) rfl (fun h9 => ?_) (fun h9 => ?_)
  · have z9 : ¬ rat P = zn := fun zz => h9 (by rw [zz])
    have ze : rFH P zn = rFr P 1 := by unfold rFH; rw [if_neg z9]
    refine k_iconst 16 17 C dX4_isFault_16 rfl (v := 1) rfl ?_
    refine k_put 17 20 C dX4_isFault_17 rfl ci_X4 9 fl_X4_197 (IsMdl.o ‹_›) (by decide) rfl rfl rfl wI_off (ps_4_9 _ _ _ _) ?_
    refine k_iconst 20 21 C dX4_isFault_20 rfl (v := 0) rfl ?_
    refine k_zret 21 C dX4_isFault_21 rfl (by first | exact Or.inl rfl | exact Or.inr rfl | exact bi_01) ?_
    rw [ze]
    exact ⟨rfl, hq.wF⟩
  · have z9 : rat P = zn := (nI_eq (by omega) (by omega)).mp h9
    have ze : rFH P zn = rFr P 2 := by unfold rFH; rw [if_pos z9]
    refine k_iconst 12 13 C dX4_isFault_12 rfl (v := 2) rfl ?_
    refine k_goto 13 17 C dX4_isFault_13 (by decide) ?_
    refine k_put 17 20 C dX4_isFault_17 rfl ci_X4 9 fl_X4_197 (IsMdl.o ‹_›) (by decide) rfl rfl rfl wI_off (ps_4_9 _ _ _ _) ?_
    refine k_iconst 20 21 C dX4_isFault_20 rfl (v := 0) rfl ?_
    refine k_zret 21 C dX4_isFault_21 rfl (by first | exact Or.inl rfl | exact Or.inr rfl | exact bi_01) ?_
    rw [ze]
    exact ⟨rfl, hq.wF⟩
set_option maxHeartbeats 4000000 in
set_option maxRecDepth 100000 in
theorem ct_X4_readNumber {E : gE} {T : gT} {l : Launch} {V : gV} {M zn : Nat} {cs : Nat → Int32} {P : Rt} (hM : IsMdl T M) (hq : RQ V M zn cs P) : CtI E T l yX4_readNumber (gw yX4_readNumber cX4_readNumber 2 (some .boolean)) { frames := 1, cells := 0, slots := 0, locals := 22 } [.ref M] V (fun (r : Int32) (V' : gV) => r = bi ((rNum cs zn P).2 = true) ∧ RQ V' M zn cs (rNum cs zn P).1 ∧ KtR V V' M) := by
  refine ctI_of (L := [(0, .ref M)]) (by decide) rfl (Nat.le_of_ble_eq_true rfl) rfl (fun p e s m args below meth c C => ?_)
  have z4 := hq.z
  have z5 := hq.le
  have zd := digM_le (cs := cs) 4 (rat P) 0 z5
  have loop10 : ∀ (zf : Nat) (V1 : gV) (k a : Nat) (v : Int32), k = zf → (a + k = rat P + 4) → (digM cs zn k a v = digM cs zn 4 (rat P) 0) → (RQ V1 M zn cs (rAt (rNu P v) a)) → (KtR V V1 M) → KW E T V1 p l e { frames := 1, cells := 0, slots := 0, locals := 22 } s m args below meth c 2 0 0 (MQ below (va_Qi (fun (r : Int32) (V' : gV) => r = bi ((rNum cs zn P).2 = true) ∧ RQ V' M zn cs (rNum cs zn P).1 ∧ KtR V V' M) (RepS E T) (gA E)) args s 0 0 (gA E)) 10 [(1, .int (nI (rat P))), (0, .ref M)] [] := by
    intro zf
    induction zf using Nat.strongRecOn with
    | _ zf ih =>
    intro V1 k a v zhf ha hg q1 k1
    have z5 := hq.le
    have z6 : a ≤ zn := q1.le
    refine k_aload_n 10 11 C dX4_readNumber_10 rfl 1 rfl ?_
    refine k_get 11 14 C dX4_readNumber_11 rfl ci_X4 8 fl_X4_194 (IsMdl.o ‹_›) (by decide) rfl ?_
    refine k_rwI (y := nI a) q1.a ?_
    refine k_iload_n 14 15 C dX4_readNumber_14 rfl 0 rfl ?_
    refine k_iconst 15 16 C dX4_readNumber_15 rfl (v := 4) rfl ?_
    refine k_iadd 16 17 C dX4_readNumber_16 rfl  ?_
    refine k_rwI (y := nI ((rat P) + (4))) (nI_add (rat P) (4)) ?_
    refine k_icmp_ge 17 66 20 C dX4_readNumber_17 (by decide) rfl (fun h17 => ?_) (fun h17 => ?_)
    · have zk : k = 0 := by
        have z1 : nI (rat P + 4) ≤ nI a := h17
        rw [nR (by omega) (by omega)] at z1; omega
      have zD : digM cs zn 4 (rat P) 0 = (a, v) := by rw [← hg, zk]; rfl
      refine k_aload_n 66 67 C dX4_readNumber_66 rfl 1 rfl ?_
      refine k_get 67 70 C dX4_readNumber_67 rfl ci_X4 8 fl_X4_194 (IsMdl.o ‹_›) (by decide) rfl ?_
      refine k_rwI (y := nI a) q1.a ?_
      refine k_iload_n 70 71 C dX4_readNumber_70 rfl 0 rfl ?_
      refine k_icmp_ne 71 79 74 C dX4_readNumber_71 (by decide) rfl (fun h71 => ?_) (fun h71 => ?_)
      · have z71 : ¬ a = rat P := fun zz => h71 (by rw [zz])
        refine k_aload_n 79 80 C dX4_readNumber_79 rfl 1 rfl ?_
        refine k_get 80 83 C dX4_readNumber_80 rfl ci_X4 10 fl_X4_200 (IsMdl.o ‹_›) (by decide) rfl ?_
        refine k_rwI (y := v) q1.nu ?_
        refine k_sipush 83 86 C dX4_readNumber_83 rfl (v := 1000) rfl ?_
        refine k_icmp_le 86 101 89 C dX4_readNumber_86 (by decide) rfl (fun h86 => ?_) (fun h86 => ?_)
        · have zR : rNum cs zn P = (rAt (rNu P v) a, true) := by unfold rNum; rw [zD, if_neg z71, if_neg (fun zz => zz h86)]
          rw [zR]
          refine k_iconst 101 102 C dX4_readNumber_101 rfl (v := 1) rfl ?_
          refine k_zret 102 C dX4_readNumber_102 rfl (by first | exact Or.inl rfl | exact Or.inr rfl | exact bi_01) ?_
          exact ⟨rfl, q1, k1⟩
        · have zR : rNum cs zn P = (rFr (rNu P v) 3, false) := by unfold rNum; rw [zD, if_neg z71, if_pos h86]
          rw [zR]
          refine k_aload_n 89 90 C dX4_readNumber_89 rfl 1 rfl ?_
          refine k_iload_n 90 91 C dX4_readNumber_90 rfl 0 rfl ?_
          refine k_put 91 94 C dX4_readNumber_91 rfl ci_X4 8 fl_X4_194 (IsMdl.o ‹_›) (by decide) rfl rfl rfl wI_off (ps_4_8 _ _ _ _) ?_
          have y2 := q1.wA (a := rat P) z5
          refine k_aload_n 94 95 C dX4_readNumber_94 rfl 1 rfl ?_
          refine k_iconst 95 96 C dX4_readNumber_95 rfl (v := 3) rfl ?_
          refine k_put 96 99 C dX4_readNumber_96 rfl ci_X4 9 fl_X4_197 (IsMdl.o ‹_›) (by decide) rfl rfl rfl wI_off (ps_4_9 _ _ _ _) ?_
          refine k_iconst 99 100 C dX4_readNumber_99 rfl (v := 0) rfl ?_
          refine k_zret 100 C dX4_readNumber_100 rfl (by first | exact Or.inl rfl | exact Or.inr rfl | exact bi_01) ?_
          exact ⟨rfl, RK.t (k1.trans y2.2) y2.1.wF⟩
      · have z71 : a = rat P := (nI_eq (by omega) (by omega)).mp h71
        have zR : rNum cs zn P = (rFH (rNu P v) zn, false) := by unfold rNum; rw [zD, if_pos z71]
        rw [zR]
        have q2 : RQ V1 M zn cs (rNu P v) := by rw [z71] at q1; exact q1
        refine k_aload_n 74 75 C dX4_readNumber_74 rfl 1 rfl ?_
        refine k_callVI 75 78 C [] [] dX4_readNumber_75 rfl (ct_X4_isFault hM q2) mi_X4_isFault ml_X4_206 im_X4_isFault se_X4_isFault ci_X4 (IsMdl.o ‹_›) rfl rfl ⟨Nat.le_of_ble_eq_true rfl, Nat.le_of_ble_eq_true rfl⟩ (Nat.le_of_ble_eq_true rfl) (Nat.zero_le _) (Nat.zero_le _) (fun r75 V75 p75 => ?_)
        refine k_zret 78 C dX4_readNumber_78 rfl (Or.inl p75.1) ?_
        exact ⟨p75.1, p75.2.1, k1.trans p75.2.2⟩
    · have zk : ¬ k = 0 := by
        have z1 : ¬ nI (rat P + 4) ≤ nI a := h17
        rw [nR (by omega) (by omega)] at z1; omega
      obtain ⟨w, rfl⟩ : ∃ w, k = w + 1 := ⟨k - 1, by omega⟩
      refine k_aload_n 20 21 C dX4_readNumber_20 rfl 1 rfl ?_
      refine k_callVI 21 24 C [] [] dX4_readNumber_21 rfl (ct_X4_here hM q1) mi_X4_here ml_X4_203 im_X4_here se_X4_here ci_X4 (IsMdl.o ‹_›) rfl rfl ⟨Nat.le_of_ble_eq_true rfl, Nat.le_of_ble_eq_true rfl⟩ (Nat.le_of_ble_eq_true rfl) (Nat.zero_le _) (Nat.zero_le _) (fun r21 V21 p21 => ?_)
      obtain ⟨rfl, rfl⟩ := And.intro p21.1.symm p21.2
      refine k_bipush 24 26 C dX4_readNumber_24 rfl (v := 48) rfl ?_
      refine k_bipush 26 28 C dX4_readNumber_26 rfl (v := 57) rfl ?_
      refine k_callSI 28 31 C [_, _, _] [] dX4_readNumber_28 rfl ct_X4_in mi_X4_in ml_X4_57 st_X4_in rfl rfl ⟨Nat.le_of_ble_eq_true rfl, Nat.le_of_ble_eq_true rfl⟩ (Nat.le_of_ble_eq_true rfl) (Nat.zero_le _) (Nat.zero_le _) (fun r28 V28 p28 => ?_)
      obtain ⟨rfl, rfl⟩ := And.intro p28.1.symm p28.2
      refine k_ifb_eq 31 66 34 C dX4_readNumber_31 (by decide) rfl (fun h31 => ?_) (fun h31 => ?_)
      · have zD : digM cs zn 4 (rat P) 0 = (a, v) := by
          rw [← hg]
          exact if_neg h31
        refine k_aload_n 66 67 C dX4_readNumber_66 rfl 1 rfl ?_
        refine k_get 67 70 C dX4_readNumber_67 rfl ci_X4 8 fl_X4_194 (IsMdl.o ‹_›) (by decide) rfl ?_
        refine k_rwI (y := nI a) q1.a ?_
        refine k_iload_n 70 71 C dX4_readNumber_70 rfl 0 rfl ?_
        refine k_icmp_ne 71 79 74 C dX4_readNumber_71 (by decide) rfl (fun h71 => ?_) (fun h71 => ?_)
        · have z71 : ¬ a = rat P := fun zz => h71 (by rw [zz])
          refine k_aload_n 79 80 C dX4_readNumber_79 rfl 1 rfl ?_
          refine k_get 80 83 C dX4_readNumber_80 rfl ci_X4 10 fl_X4_200 (IsMdl.o ‹_›) (by decide) rfl ?_
          refine k_rwI (y := v) q1.nu ?_
          refine k_sipush 83 86 C dX4_readNumber_83 rfl (v := 1000) rfl ?_
          refine k_icmp_le 86 101 89 C dX4_readNumber_86 (by decide) rfl (fun h86 => ?_) (fun h86 => ?_)
          · have zR : rNum cs zn P = (rAt (rNu P v) a, true) := by unfold rNum; rw [zD, if_neg z71, if_neg (fun zz => zz h86)]
            rw [zR]
            refine k_iconst 101 102 C dX4_readNumber_101 rfl (v := 1) rfl ?_
            refine k_zret 102 C dX4_readNumber_102 rfl (by first | exact Or.inl rfl | exact Or.inr rfl | exact bi_01) ?_
            exact ⟨rfl, q1, k1⟩
          · have zR : rNum cs zn P = (rFr (rNu P v) 3, false) := by unfold rNum; rw [zD, if_neg z71, if_pos h86]
            rw [zR]
            refine k_aload_n 89 90 C dX4_readNumber_89 rfl 1 rfl ?_
            refine k_iload_n 90 91 C dX4_readNumber_90 rfl 0 rfl ?_
            refine k_put 91 94 C dX4_readNumber_91 rfl ci_X4 8 fl_X4_194 (IsMdl.o ‹_›) (by decide) rfl rfl rfl wI_off (ps_4_8 _ _ _ _) ?_
            have y2 := q1.wA (a := rat P) z5
            refine k_aload_n 94 95 C dX4_readNumber_94 rfl 1 rfl ?_
            refine k_iconst 95 96 C dX4_readNumber_95 rfl (v := 3) rfl ?_
            refine k_put 96 99 C dX4_readNumber_96 rfl ci_X4 9 fl_X4_197 (IsMdl.o ‹_›) (by decide) rfl rfl rfl wI_off (ps_4_9 _ _ _ _) ?_
            refine k_iconst 99 100 C dX4_readNumber_99 rfl (v := 0) rfl ?_
            refine k_zret 100 C dX4_readNumber_100 rfl (by first | exact Or.inl rfl | exact Or.inr rfl | exact bi_01) ?_
            exact ⟨rfl, RK.t (k1.trans y2.2) y2.1.wF⟩
        · have z71 : a = rat P := (nI_eq (by omega) (by omega)).mp h71
          have zR : rNum cs zn P = (rFH (rNu P v) zn, false) := by unfold rNum; rw [zD, if_pos z71]
          rw [zR]
          have q2 : RQ V1 M zn cs (rNu P v) := by rw [z71] at q1; exact q1
          refine k_aload_n 74 75 C dX4_readNumber_74 rfl 1 rfl ?_
          refine k_callVI 75 78 C [] [] dX4_readNumber_75 rfl (ct_X4_isFault hM q2) mi_X4_isFault ml_X4_206 im_X4_isFault se_X4_isFault ci_X4 (IsMdl.o ‹_›) rfl rfl ⟨Nat.le_of_ble_eq_true rfl, Nat.le_of_ble_eq_true rfl⟩ (Nat.le_of_ble_eq_true rfl) (Nat.zero_le _) (Nat.zero_le _) (fun r75 V75 p75 => ?_)
          refine k_zret 78 C dX4_readNumber_78 rfl (Or.inl p75.1) ?_
          exact ⟨p75.1, p75.2.1, k1.trans p75.2.2⟩
      · have zn2 : digM cs zn w (a + 1) (10 * v + hereM cs zn a - 48) = digM cs zn 4 (rat P) 0 := by
          rw [← hg]
          exact (if_pos h31).symm
        have za := hereM_dg h31
        refine k_aload_n 34 35 C dX4_readNumber_34 rfl 1 rfl ?_
        refine k_bipush 35 37 C dX4_readNumber_35 rfl (v := 10) rfl ?_
        refine k_aload_n 37 38 C dX4_readNumber_37 rfl 1 rfl ?_
        refine k_get 38 41 C dX4_readNumber_38 rfl ci_X4 10 fl_X4_200 (IsMdl.o ‹_›) (by decide) rfl ?_
        refine k_rwI (y := v) q1.nu ?_
        refine k_imul 41 42 C dX4_readNumber_41 rfl  ?_
        refine k_aload_n 42 43 C dX4_readNumber_42 rfl 1 rfl ?_
        refine k_callVI 43 46 C [] [_, _] dX4_readNumber_43 rfl (ct_X4_here hM q1) mi_X4_here ml_X4_203 im_X4_here se_X4_here ci_X4 (IsMdl.o ‹_›) rfl rfl ⟨Nat.le_of_ble_eq_true rfl, Nat.le_of_ble_eq_true rfl⟩ (Nat.le_of_ble_eq_true rfl) (Nat.zero_le _) (Nat.zero_le _) (fun r43 V43 p43 => ?_)
        obtain ⟨rfl, rfl⟩ := And.intro p43.1.symm p43.2
        refine k_iadd 46 47 C dX4_readNumber_46 rfl  ?_
        refine k_bipush 47 49 C dX4_readNumber_47 rfl (v := 48) rfl ?_
        refine k_isub 49 50 C dX4_readNumber_49 rfl  ?_
        refine k_put 50 53 C dX4_readNumber_50 rfl ci_X4 10 fl_X4_200 (IsMdl.o ‹_›) (by decide) rfl rfl rfl wI_off (ps_4_10 _ _ _ _) ?_
        have y1 := q1.wN (x := 10 * v + hereM cs zn a - 48)
        refine k_aload_n 53 54 C dX4_readNumber_53 rfl 1 rfl ?_
        refine k_dup 54 55 C dX4_readNumber_54 rfl rfl ?_
        refine k_get 55 58 C dX4_readNumber_55 rfl ci_X4 8 fl_X4_194 (IsMdl.o ‹_›) (by decide) rfl ?_
        refine k_rwI (y := nI a) y1.1.a ?_
        refine k_iconst 58 59 C dX4_readNumber_58 rfl (v := 1) rfl ?_
        refine k_iadd 59 60 C dX4_readNumber_59 rfl  ?_
        refine k_rwI (y := nI (a + 1)) (nI_1 a) ?_
        refine k_put 60 63 C dX4_readNumber_60 rfl ci_X4 8 fl_X4_194 (IsMdl.o ‹_›) (by decide) rfl rfl rfl wI_off (ps_4_8 _ _ _ _) ?_
        have zq2 : RQ _ M zn cs (rAt (rNu P (10 * v + hereM cs zn a - 48)) (a + 1)) ∧ KtR V1 _ M := RK.t y1.2 (y1.1.wA (a := a + 1) za)
        refine k_goto 63 10 C dX4_readNumber_63 (by decide) ?_
        exact ih w (by omega) _ w (a + 1) _ rfl (by omega) zn2 zq2.1 (k1.trans zq2.2)
  refine k_aload_n 0 1 C dX4_readNumber_0 rfl 0 rfl ?_
  refine k_get 1 4 C dX4_readNumber_1 rfl ci_X4 8 fl_X4_194 (IsMdl.o ‹_›) (by decide) rfl ?_
  refine k_rwI (hq.a) ?_
  refine k_istore_n 4 5 C [(1, _), (0, _)] dX4_readNumber_4 rfl (by decide) rfl ?_
  refine k_aload_n 5 6 C dX4_readNumber_5 rfl 1 rfl ?_
  refine k_iconst 6 7 C dX4_readNumber_6 rfl (v := 0) rfl ?_
  refine k_put 7 10 C dX4_readNumber_7 rfl ci_X4 10 fl_X4_200 (IsMdl.o ‹_›) (by decide) rfl rfl rfl wI_off (ps_4_10 _ _ _ _) ?_
  exact loop10 _ _ 4 (rat P) 0 rfl rfl rfl (hq.wN (x := 0)).1 (hq.wN (x := 0)).2
