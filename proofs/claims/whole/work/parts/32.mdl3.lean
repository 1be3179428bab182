/-! rows of the page -/
theorem k_laldP {E : gE} {T : gT} {V : gV} {p : Program} {l : Launch} {e : Env} {R : Room} {s : State} {m : MethodId} {args : Array Value} {below : List Frame} {meth : Method} {c : Code} {own : String} {cc : ByteArray} {nL : Nat} {ret : Option FieldType} {k n : Nat} {Q : State → Prop} {L : List (Nat × Value)} {st : List Value} (pc q : Nat) (C : Cx E p s m args meth c own cc nL ret) (hd : decode cc pc = .ok (.laload, 1)) (hq : pc + 1 = q) {M c0 : Nat} {f : Nat → Int64} (hM : IsMdl T M) (hf : PQ V M f) (hc : c0 < 915) (K : KW E T V p l e R s m args below meth c nL k n Q q L (.long (f c0) :: st)) : KW E T V p l e R s m args below meth c nL k n Q pc L (.int (nI c0) :: .ref (M + 1) :: st) :=
  k_lald pc q C hd hq hM.a0 (vp_in_nI hc (by decide)) (by rw [nI_clamp (by omega), hf c0 hc]; exact K)
theorem k_lastP {E : gE} {T : gT} {V : gV} {p : Program} {l : Launch} {e : Env} {R : Room} {s : State} {m : MethodId} {args : Array Value} {below : List Frame} {meth : Method} {c : Code} {own : String} {cc : ByteArray} {nL : Nat} {ret : Option FieldType} {k n : Nat} {Q : State → Prop} {L : List (Nat × Value)} {st : List Value} (pc q : Nat) (C : Cx E p s m args meth c own cc nL ret) (hd : decode cc pc = .ok (.lastore, 1)) (hq : pc + 1 = q) {M c0 : Nat} {f : Nat → Int64} {x : Int64} (hM : IsMdl T M) (hf : PQ V M f) (hc : c0 < 915) (K : ∀ V2 : gV, Pg V V2 M (va_up f c0 x) → KW E T V2 p l e R s m args below meth c nL k n Q q L st) : KW E T V p l e R s m args below meth c nL k n Q pc L (.long x :: .int (nI c0) :: .ref (M + 1) :: st) :=
  k_last pc q C hd hq hM.a0 (vp_in_nI hc (by decide)) (by rw [nI_clamp (by omega)]; exact K _ (wP_pg hf))
theorem tl_all {V V1 : gV} {M : Nat} {x y : Int64} {f : Nat → Int64} (h : V1 = tl V M x y) (hf : PQ V M f) : Pg V V1 M f ∧ V1.2.1 M 6 = x ∧ V1.2.1 M 7 = y := by
  subst h; exact ⟨tl_pg hf, tl6, tl7⟩
theorem put_all {V V1 : gV} {M k : Nat} {x y : Int64} {f : Nat → Int64} (h : V1 = wL (wL V (M + 1) k x) (M + 1) (k + 1) y) (hf : PQ V M f) : Pg V V1 M (va_up (va_up f k x) (k + 1) y) := by
  subst h; exact (wP_pg hf).trans (wP_pg (wP_pg hf).2.2.2)
/-- 915 longs brought over -/
def brV (V : gV) (x y i j n : Nat) : gV := (V.1, fun b c => if b = y then (if j ≤ c ∧ c < j + n then V.2.1 x (i + (c - j)) else V.2.1 b c) else V.2.1 b c, V.2.2)
theorem brV_0 {V : gV} {x y i j : Nat} : brV V x y i j 0 = V := by
  unfold brV
  refine Prod.ext rfl (Prod.ext (funext fun b => funext fun c => ?_) rfl)
  simp only
  split
  · rw [if_neg (by omega)]
  · rfl
theorem brV_x {V : gV} {x y i j n k : Nat} (h : x ≠ y) : (brV V x y i j n).2.1 x k = V.2.1 x k := by simp [brV, h]
theorem brV_s {V : gV} {x y i j n : Nat} : wL (brV V x y i j n) y (j + n) (V.2.1 x (i + n)) = brV V x y i j (n + 1) := by
  unfold brV wL
  refine Prod.ext rfl (Prod.ext (funext fun b => ?_) rfl)
  simp only
  by_cases e : b = y
  · subst e
    simp only [if_true]
    funext c
    by_cases ec : c = j + n
    · subst ec; rw [pk_uLs, if_pos (by omega), show j + n - j = n by omega]
    · rw [pk_uLn ec]
      by_cases z : j ≤ c ∧ c < j + n
      · rw [if_pos z, if_pos (by omega)]
      · rw [if_neg z, if_neg (by omega)]
  · simp only [if_neg e]
theorem brV_off {V : gV} {x y i j n b : Nat} (h : b ≠ y) : (brV V x y i j n).2.1 b = V.2.1 b := by simp [brV, h]
theorem brV_y {V : gV} {x y i j n q : Nat} (h : q < n) : (brV V x y i j n).2.1 y (j + q) = V.2.1 x (i + q) := by
  show (if y = y then (if j ≤ j + q ∧ j + q < j + n then V.2.1 x (i + (j + q - j)) else V.2.1 y (j + q)) else _) = _
  rw [if_pos rfl, if_pos (by omega), show j + q - j = q by omega]
theorem brV_o {V : gV} {x y i j n q : Nat} (h : q < j ∨ j + n ≤ q) : (brV V x y i j n).2.1 y q = V.2.1 y q := by
  show (if y = y then (if j ≤ q ∧ q < j + n then V.2.1 x (i + (q - j)) else V.2.1 y q) else _) = _
  rw [if_pos rfl, if_neg (by omega)]
/-- what changes of the reference: its pages and their number -/
def KpM (V V1 : gV) (M : Nat) : Prop := (∀ b, b ≠ M → V1.1 b = V.1 b) ∧ (∀ j, j ≠ 3 → V1.1 M j = V.1 M j) ∧ (∀ b, (b < M ∨ M + 4 ≤ b) → V1.2.1 b = V.2.1 b) ∧ V1.2.2 = V.2.2
theorem KpM.rf {V : gV} {M : Nat} : KpM V V M := ⟨fun _ _ => rfl, fun _ _ => rfl, fun _ _ => rfl, rfl⟩
theorem KpM.trans {V V1 V2 : gV} {M : Nat} (h : KpM V V1 M) (h2 : KpM V1 V2 M) : KpM V V2 M := ⟨fun b x => (h2.1 b x).trans (h.1 b x), fun b x => (h2.2.1 b x).trans (h.2.1 b x), fun b x => (h2.2.2.1 b x).trans (h.2.2.1 b x), h2.2.2.2.trans h.2.2.2⟩
theorem Pg.kp {V V1 : gV} {M : Nat} {f : Nat → Int64} (h : Pg V V1 M f) : KpM V V1 M := ⟨fun b _ => by rw [h.1], fun j _ => by rw [h.1], fun b hb => h.2.1 b (by omega) (by omega), h.2.2.1⟩
/-- the pages of the past -/
def HQ (V : gV) (M h : Nat) (H : Nat → Nat → Int64) : Prop := V.1 M 3 = nI h ∧ h ≤ 4 ∧ ∀ k, k < h → ∀ j, j < 915 → V.2.1 (M + 3) (915 * k + j) = H k j
theorem HQ.pg {V V1 : gV} {M h : Nat} {H : Nat → Nat → Int64} {f : Nat → Int64} (g : HQ V M h H) (z : Pg V V1 M f) : HQ V1 M h H := ⟨by rw [z.1]; exact g.1, g.2.1, fun k hk j hj => by rw [z.2.1 (M + 3) (by omega) (by omega)]; exact g.2.2 k hk j hj⟩
def keepH (f : Nat → Int64) (h : Nat) (H : Nat → Nat → Int64) : Nat → Nat → Int64 := if h < 4 then va_up H h f else va_up (fun k => H (k + 1)) 3 f
def shV (V : gV) (M n : Nat) : gV := (V.1, fun b c => if b = M + 3 then (if c < n then V.2.1 b (c + 915) else V.2.1 b c) else V.2.1 b c, V.2.2)
theorem shV_0 {V : gV} {M : Nat} : shV V M 0 = V := by
  unfold shV
  refine Prod.ext rfl (Prod.ext (funext fun b => funext fun c => ?_) rfl)
  simp
theorem shV_r {V : gV} {M n : Nat} : (shV V M n).2.1 (M + 3) (n + 915) = V.2.1 (M + 3) (n + 915) := by simp only [shV, if_true]; rw [if_neg (by omega)]
theorem shV_s {V : gV} {M n : Nat} : wL (shV V M n) (M + 3) n (V.2.1 (M + 3) (n + 915)) = shV V M (n + 1) := by
  unfold shV wL
  refine Prod.ext rfl (Prod.ext (funext fun b => ?_) rfl)
  simp only
  by_cases e : b = M + 3
  · subst e
    simp only [if_true]
    funext c
    by_cases ec : c = n
    · subst ec; rw [pk_uLs, if_pos (by omega)]
    · rw [pk_uLn ec]
      by_cases z : c < n
      · rw [if_pos z, if_pos (by omega)]
      · rw [if_neg z, if_neg (by omega)]
  · simp only [if_neg e]
theorem sh_kp {V : gV} {M n : Nat} {x : Int32} : KpM V (wI (shV V M n) M 3 x) M := ⟨fun b hb => by rw [(wI_off b hb).1]; rfl, fun j hj => by show (if M = M then upd (V.1 M) 3 x else _) j = _; rw [if_pos rfl, pk_un hj], fun b hb => by funext c; show (if b = M + 3 then _ else V.2.1 b c) = V.2.1 b c; rw [if_neg (by omega)], rfl⟩
theorem sh_pq {V : gV} {M : Nat} {f : Nat → Int64} {x : Int32} (hf : PQ V M f) : PQ (wI (shV V M 2745) M 3 x) M f := fun j hj => by
  show (if M + 1 = M + 3 then _ else V.2.1 (M + 1) j) = _
  rw [if_neg (by omega)]; exact hf j hj
theorem br_kp {V : gV} {M h : Nat} {x : Int32} : KpM V (wI (brV V (M + 1) (M + 3) 0 (915 * h) 915) M 3 x) M := ⟨fun b hb => by rw [(wI_off b hb).1]; rfl, fun j hj => by show (if M = M then upd (V.1 M) 3 x else _) j = _; rw [if_pos rfl, pk_un hj], fun b hb => by show (brV V (M + 1) (M + 3) 0 (915 * h) 915).2.1 b = _; exact brV_off (by omega), rfl⟩
theorem sh_pages {V : gV} {M : Nat} {H : Nat → Nat → Int64} {x : Int32} (hx : x = nI 3) (g : HQ V M 4 H) : HQ (wI (shV V M 2745) M 3 x) M 3 (fun k => H (k + 1)) := ⟨by show (if M = M then upd (V.1 M) 3 x else _) 3 = _; rw [if_pos rfl, pk_us, hx], by omega, fun k hk j hj => by
  show (if M + 3 = M + 3 then (if 915 * k + j < 2745 then V.2.1 (M + 3) (915 * k + j + 915) else _) else _) = _
  rw [if_pos rfl, if_pos (by omega)]
  show _ = H (k + 1) j
  rw [← g.2.2 (k + 1) (by omega) j hj, show 915 * (k + 1) + j = 915 * k + j + 915 by omega]⟩
theorem br_pages {V : gV} {M h : Nat} {H : Nat → Nat → Int64} {f : Nat → Int64} (hf : PQ V M f) (hh : h < 4) (g : HQ V M h H) : HQ (wI (brV V (M + 1) (M + 3) 0 (915 * h) 915) M 3 (nI (h + 1))) M (h + 1) (va_up H h f) := ⟨by show (if M = M then upd (V.1 M) 3 _ else _) 3 = _; rw [if_pos rfl, pk_us], by omega, fun k hk j hj => by
  show (brV V (M + 1) (M + 3) 0 (915 * h) 915).2.1 (M + 3) (915 * k + j) = _
  by_cases e : k = h
  · subst e; rw [brV_y hj, Nat.zero_add, va_up_self]; exact hf j hj
  · rw [brV_o (by omega), va_up_ne _ _ e]; exact g.2.2 k (by omega) j hj⟩
set_option maxHeartbeats 4000000 in
set_option maxRecDepth 100000 in
theorem ct_X4_bring {E : gE} {T : gT} {l : Launch} {V : gV} {x y i j zN zK : Nat} (hx : tA T x 1 zN) (hy : tA T y 1 zK) (hxy : x ≠ y) (hi : i + 915 ≤ zN) (hj : j + 915 ≤ zK) (hN : zN ≤ 4000) (hK : zK ≤ 4000) : CtV E T l yX4_bring (gw yX4_bring cX4_bring 5 none) { frames := 0, cells := 0, slots := 0, locals := 0 } [.ref x, .int (nI i), .ref y, .int (nI j)] V (fun (V' : gV) => V' = brV V x y i j 915) := by
  refine ctV_of (L := [(0, .ref x), (1, .int (nI i)), (2, .ref y), (3, .int (nI j))]) (by decide) rfl (Nat.le_of_ble_eq_true rfl) rfl (fun p e s m args below meth c C => ?_)
  have loop3 : ∀ (zf : Nat) (w : Nat), 915 - w = zf → (w ≤ 915) → KW E T (brV V x y i j w) p l e { frames := 0, cells := 0, slots := 0, locals := 0 } s m args below meth c 5 0 0 (MQ below (va_Qv (fun (V' : gV) => V' = brV V x y i j 915) (RepS E T) (gA E)) args s 0 0 (gA E)) 3 [(4, .int (nI w)), (0, .ref x), (1, .int (nI i)), (2, .ref y), (3, .int (nI j))] [] := by
    intro zf
    induction zf using Nat.strongRecOn with
    | _ zf ih =>
    intro w zhf hw
    refine k_iload 3 5 C dX4_bring_3 rfl 0 rfl ?_
    refine k_sipush 5 8 C dX4_bring_5 rfl (v := 915) rfl ?_
    refine k_icmp_ge 8 29 11 C dX4_bring_8 (by decide) rfl (fun h8 => ?_) (fun h8 => ?_)
    · have z8 : nI 915 ≤ nI w := h8
      rw [n1k (by omega) (by omega)] at z8
      obtain rfl : w = 915 := by omega
      refine k_vret 29 C dX4_bring_29 rfl ?_
      exact rfl
    · have z8 : ¬ nI 915 ≤ nI w := h8
      rw [n1k (by omega) (by omega)] at z8
      refine k_aload_n 11 12 C dX4_bring_11 rfl 3 rfl ?_
      refine k_iload_n 12 13 C dX4_bring_12 rfl 4 rfl ?_
      refine k_iload 13 15 C dX4_bring_13 rfl 0 rfl ?_
      refine k_iadd 15 16 C dX4_bring_15 rfl  ?_
      refine k_rwI (y := nI (j + w)) (nI_add (j) (w)) ?_
      refine k_aload_n 16 17 C dX4_bring_16 rfl 1 rfl ?_
      refine k_iload_n 17 18 C dX4_bring_17 rfl 2 rfl ?_
      refine k_iload 18 20 C dX4_bring_18 rfl 0 rfl ?_
      refine k_iadd 20 21 C dX4_bring_20 rfl  ?_
      refine k_rwI (y := nI (i + w)) (nI_add (i) (w)) ?_
      refine k_lald 21 22 C dX4_bring_21 rfl (hx) (vp_in_nI (show i + w < zN by omega) (by omega)) ?_
      rw [nI_clamp (show i + w < 2 ^ 31 by omega)]
      refine k_rwL (y := V.2.1 x (i + w)) (brV_x hxy) ?_
      refine k_last 22 23 C dX4_bring_22 rfl (hy) (vp_in_nI (show j + w < zK by omega) (by omega)) ?_
      rw [nI_clamp (show j + w < 2 ^ 31 by omega)]
      refine k_iinc 23 26 C [(4, _), (0, _), (1, _), (2, _), (3, _)] (nI (w + 1)) dX4_bring_23 rfl 0 rfl (nI_1 (w)) (by decide) rfl ?_
      refine k_goto 26 3 C dX4_bring_26 (by decide) ?_
      rw [brV_s]
      exact ih (915 - (w + 1)) (by omega) (w + 1) rfl (by omega)
  refine k_iconst 0 1 C dX4_bring_0 rfl (v := 0) rfl ?_
  refine k_istore 1 3 C [(4, _), (0, _), (1, _), (2, _), (3, _)] dX4_bring_1 rfl (by decide) rfl ?_
  have z0 := loop3 _ 0 rfl (Nat.zero_le _)
  rw [brV_0] at z0
  exact z0
set_option maxHeartbeats 4000000 in
set_option maxRecDepth 100000 in
theorem ct_X4_keep {E : gE} {T : gT} {l : Launch} {V : gV} {M h : Nat} {f : Nat → Int64} {H : Nat → Nat → Int64} (hM : IsMdl T M) (hf : PQ V M f) (hh : HQ V M h H) : CtV E T l yX4_keep (gw yX4_keep cX4_keep 2 none) { frames := 1, cells := 0, slots := 0, locals := 24 } [.ref M] V (fun (V' : gV) => PQ V' M f ∧ HQ V' M (remN h) (keepH f h H) ∧ KpM V V' M) := by
  refine ctV_of (L := [(0, .ref M)]) (by decide) rfl (Nat.le_of_ble_eq_true rfl) rfl (fun p e s m args below meth c C => ?_)
  have loop49 : ∀ (zf : Nat) (V1 : gV) (h1 : Nat) (H1 : Nat → Nat → Int64), 0 = zf → (h1 < 4) → (HQ V1 M h1 H1) → (PQ V1 M f) → (KpM V V1 M) → (remN h = h1 + 1) → (keepH f h H = va_up H1 h1 f) → KW E T V1 p l e { frames := 1, cells := 0, slots := 0, locals := 24 } s m args below meth c 2 0 0 (MQ below (va_Qv (fun (V' : gV) => PQ V' M f ∧ HQ V' M (remN h) (keepH f h H) ∧ KpM V V' M) (RepS E T) (gA E)) args s 0 0 (gA E)) 49 [(0, .ref M)] [] := by
    intro zf
    induction zf using Nat.strongRecOn with
    | _ zf ih =>
    intro V1 h1 H1 zhf hh1 g1 q1 k1 en eh
    refine k_aload_n 49 50 C dX4_keep_49 rfl 0 rfl ?_
    refine k_getF 50 53 C dX4_keep_50 rfl ci_X4 0 fl_X4_7 (IsMdl.o ‹_›) (by decide) (IsMdl.f0 ‹_›) rfl ?_
    refine k_iconst 53 54 C dX4_keep_53 rfl (v := 0) rfl ?_
    refine k_aload_n 54 55 C dX4_keep_54 rfl 0 rfl ?_
    refine k_getF 55 58 C dX4_keep_55 rfl ci_X4 2 fl_X4_16 (IsMdl.o ‹_›) (by decide) (IsMdl.f2 ‹_›) rfl ?_
    refine k_sipush 58 61 C dX4_keep_58 rfl (v := 915) rfl ?_
    refine k_aload_n 61 62 C dX4_keep_61 rfl 0 rfl ?_
    refine k_get 62 65 C dX4_keep_62 rfl ci_X4 3 fl_X4_34 (IsMdl.o ‹_›) (by decide) rfl ?_
    refine k_rwI (g1.1) ?_
    refine k_imul 65 66 C dX4_keep_65 rfl  ?_
    refine k_rwI (y := nI (915 * h1)) (pk_mul (915) (h1)) ?_
    refine k_callSV 66 69 C [_, _, _, _] [] dX4_keep_66 rfl (ct_X4_bring hM.a0 hM.a2 (by omega) (by decide) (show 915 * h1 + 915 ≤ 3660 by omega) (by decide) (by decide)) mi_X4_bring ml_X4_38 st_X4_bring rfl rfl ⟨Nat.le_of_ble_eq_true rfl, Nat.le_of_ble_eq_true rfl⟩ (Nat.le_of_ble_eq_true rfl) (Nat.zero_le _) (Nat.zero_le _) (fun V66 p66 => ?_)
    subst p66
    refine k_aload_n 69 70 C dX4_keep_69 rfl 0 rfl ?_
    refine k_dup 70 71 C dX4_keep_70 rfl rfl ?_
    refine k_get 71 74 C dX4_keep_71 rfl ci_X4 3 fl_X4_34 (IsMdl.o ‹_›) (by decide) rfl ?_
    refine k_rwI (y := nI h1) g1.1 ?_
    refine k_iconst 74 75 C dX4_keep_74 rfl (v := 1) rfl ?_
    refine k_iadd 75 76 C dX4_keep_75 rfl  ?_
    refine k_rwI (y := nI (h1 + 1)) (nI_add (h1) (1)) ?_
    refine k_put 76 79 C dX4_keep_76 rfl ci_X4 3 fl_X4_34 (IsMdl.o ‹_›) (by decide) rfl rfl rfl wI_off (ps_4_3 _ _ _ _) ?_
    refine k_vret 79 C dX4_keep_79 rfl ?_
    rw [en, eh]
    exact ⟨fun zj hzj => by show (brV V1 (M + 1) (M + 3) 0 (915 * h1) 915).2.1 (M + 1) zj = _; rw [brV_x (by omega)]; exact q1 zj hzj, br_pages q1 hh1 g1, k1.trans br_kp⟩
  have loop10 : ∀ (zf : Nat) (w : Nat), 2745 - w = zf → (w ≤ 2745) → (h = 4) → KW E T (shV V M w) p l e { frames := 1, cells := 0, slots := 0, locals := 24 } s m args below meth c 2 0 0 (MQ below (va_Qv (fun (V' : gV) => PQ V' M f ∧ HQ V' M (remN h) (keepH f h H) ∧ KpM V V' M) (RepS E T) (gA E)) args s 0 0 (gA E)) 10 [(1, .int (nI w)), (0, .ref M)] [] := by
    intro zf
    induction zf using Nat.strongRecOn with
    | _ zf ih =>
    intro w zhf hw h4
    refine k_iload_n 10 11 C dX4_keep_10 rfl 0 rfl ?_
    refine k_sipush 11 14 C dX4_keep_11 rfl (v := 2745) rfl ?_
    refine k_icmp_ge 14 39 17 C dX4_keep_14 (by decide) rfl (fun h14 => ?_) (fun h14 => ?_)
    · have z14 : nI 2745 ≤ nI w := h14
      rw [n1k (by omega) (by omega)] at z14
      obtain rfl : w = 2745 := by omega
      subst h4
      have y0 : 3 < 4 := by decide
      have y1 := sh_pages (x := nI 4 - 1) (by decide) hh
      have y2 := sh_pq (x := nI 4 - 1) hf
      have y3 : KpM V (wI (shV V M 2745) M 3 (nI 4 - 1)) M := sh_kp
      have y4 : remN 4 = 3 + 1 := rfl
      have y5 : keepH f 4 H = va_up (fun k => H (k + 1)) 3 f := rfl
      refine k_aload_n 39 40 C dX4_keep_39 rfl 1 rfl ?_
      refine k_dup 40 41 C dX4_keep_40 rfl rfl ?_
      refine k_get 41 44 C dX4_keep_41 rfl ci_X4 3 fl_X4_34 (IsMdl.o ‹_›) (by decide) rfl ?_
      refine k_rwI (y := nI 4) hh.1 ?_
      refine k_iconst 44 45 C dX4_keep_44 rfl (v := 1) rfl ?_
      refine k_isub 45 46 C dX4_keep_45 rfl  ?_
      refine k_put 46 49 C dX4_keep_46 rfl ci_X4 3 fl_X4_34 (IsMdl.o ‹_›) (by decide) rfl rfl rfl wI_off (ps_4_3 _ _ _ _) ?_
      refine k_perm [1] (L' := [(0, _)]) rfl ?_
      exact loop49 _ _ _ _ rfl y0 y1 y2 y3 y4 y5
    · have z14 : ¬ nI 2745 ≤ nI w := h14
      rw [n1k (by omega) (by omega)] at z14
      refine k_aload_n 17 18 C dX4_keep_17 rfl 1 rfl ?_
      refine k_getF 18 21 C dX4_keep_18 rfl ci_X4 2 fl_X4_16 (IsMdl.o ‹_›) (by decide) (IsMdl.f2 ‹_›) rfl ?_
      refine k_iload_n 21 22 C dX4_keep_21 rfl 0 rfl ?_
      refine k_aload_n 22 23 C dX4_keep_22 rfl 1 rfl ?_
      refine k_getF 23 26 C dX4_keep_23 rfl ci_X4 2 fl_X4_16 (IsMdl.o ‹_›) (by decide) (IsMdl.f2 ‹_›) rfl ?_
      refine k_iload_n 26 27 C dX4_keep_26 rfl 0 rfl ?_
      refine k_sipush 27 30 C dX4_keep_27 rfl (v := 915) rfl ?_
      refine k_iadd 30 31 C dX4_keep_30 rfl  ?_
      refine k_rwI (y := nI (w + 915)) (nI_add (w) (915)) ?_
      refine k_lald 31 32 C dX4_keep_31 rfl (IsMdl.a2 hM) (vp_in_nI (show w + 915 < 3660 by omega) (by decide)) ?_
      rw [nI_clamp (show w + 915 < 2 ^ 31 by omega)]
      refine k_rwL (y := V.2.1 (M + 3) (w + 915)) shV_r ?_
      refine k_last 32 33 C dX4_keep_32 rfl (IsMdl.a2 hM) (vp_in_nI (show w < 3660 by omega) (by decide)) ?_
      rw [nI_clamp (show w < 2 ^ 31 by omega)]
      refine k_iinc 33 36 C [(1, _), (0, _)] (nI (w + 1)) dX4_keep_33 rfl 0 rfl (nI_1 (w)) (by decide) rfl ?_
      refine k_goto 36 10 C dX4_keep_36 (by decide) ?_
      rw [shV_s]
      exact ih (2745 - (w + 1)) (by omega) (w + 1) rfl (by omega) h4
  refine k_aload_n 0 1 C dX4_keep_0 rfl 0 rfl ?_
  refine k_get 1 4 C dX4_keep_1 rfl ci_X4 3 fl_X4_34 (IsMdl.o ‹_›) (by decide) rfl ?_
  refine k_rwI (hh.1) ?_
  refine k_iconst 4 5 C dX4_keep_4 rfl (v := 4) rfl ?_
  refine k_icmp_ne 5 49 8 C dX4_keep_5 (by decide) rfl (fun h5 => ?_) (fun h5 => ?_)
  · have z5 : h < 4 := by
      have z6 : ¬ h = 4 := fun zz => h5 (by rw [zz]; rfl)
      have := hh.2.1; omega
    have y0 := z5
    have y1 := hh
    have y2 := hf
    have y3 : KpM V V M := KpM.rf
    have y4 : remN h = h + 1 := by unfold remN; rw [if_pos z5]
    have y5 : keepH f h H = va_up H h f := by unfold keepH; rw [if_pos z5]
    exact loop49 _ _ _ _ rfl y0 y1 y2 y3 y4 y5
  · refine k_iconst 8 9 C dX4_keep_8 rfl (v := 0) rfl ?_
    refine k_istore_n 9 10 C [(1, _), (0, _)] dX4_keep_9 rfl (by decide) rfl ?_
    have z0 := loop10 _ 0 rfl (Nat.zero_le _) ((nI_eq (by have := hh.2.1; omega) (by decide)).mp (show nI h = nI 4 from h5))
    rw [shV_0] at z0
    exact z0
theorem unb {h : Nat} (hh : h ≤ 4) : nI h = 0 ↔ h = 0 := nI_eq (b := 0) (by omega) (by decide)
theorem undo_all {V : gV} {M h : Nat} {H : Nat → Nat → Int64} (g : HQ V M (h + 1) H) : PQ (brV (wI V M 3 (nI h)) (M + 3) (M + 1) (915 * h) 0 915) M (H h) ∧ HQ (brV (wI V M 3 (nI h)) (M + 3) (M + 1) (915 * h) 0 915) M h H ∧ KpM V (brV (wI V M 3 (nI h)) (M + 3) (M + 1) (915 * h) 0 915) M := by
  refine ⟨fun j hj => ?_, ⟨?_, by have := g.2.1; omega, fun k hk j hj => ?_⟩, fun b hb => ?_, fun j hj => ?_, fun b hb => ?_, rfl⟩
  · have z := brV_y (V := wI V M 3 (nI h)) (x := M + 3) (y := M + 1) (i := 915 * h) (j := 0) hj
    rw [Nat.zero_add] at z
    exact z.trans (g.2.2 h (by omega) j hj)
  · show (if M = M then upd (V.1 M) 3 _ else _) 3 = _; rw [if_pos rfl, pk_us]
  · exact (congrFun (brV_off (show M + 3 ≠ M + 1 by omega)) _).trans (g.2.2 k (by omega) j hj)
  · exact (wI_off b hb).1
  · show (if M = M then upd (V.1 M) 3 _ else _) j = _; rw [if_pos rfl, pk_un hj]
  · exact brV_off (show b ≠ M + 1 by omega)
set_option maxHeartbeats 4000000 in
set_option maxRecDepth 100000 in
theorem ct_X4_undo {E : gE} {T : gT} {l : Launch} {V : gV} {M h : Nat} {f : Nat → Int64} {H : Nat → Nat → Int64} (hM : IsMdl T M) (hf : PQ V M f) (hh : HQ V M h H) : CtI E T l yX4_undo (gw yX4_undo cX4_undo 1 (some .int)) { frames := 1, cells := 0, slots := 0, locals := 24 } [.ref M] V (fun (r : Int32) (V' : gV) => r = (if h = 0 then -2000000002 else nI (h - 1)) ∧ PQ V' M (if h = 0 then f else H (h - 1)) ∧ HQ V' M (h - 1) H ∧ KpM V V' M) := by
  refine ctI_of (L := [(0, .ref M)]) (by decide) rfl (Nat.le_of_ble_eq_true rfl) rfl (fun p e s m args below meth c C => ?_)
  have z4 := hh.2.1
  refine k_aload_n 0 1 C dX4_undo_0 rfl 0 rfl ?_
  refine k_get 1 4 C dX4_undo_1 rfl ci_X4 3 fl_X4_34 (IsMdl.o ‹_›) (by decide) rfl ?_
  refine k_rwI (hh.1) ?_
  refine k_if_ne 4 10 7 C dX4_undo_4 (by decide) rfl (fun h4 => ?_) (fun h4 => ?_)
  · have z5 : ¬ h = 0 := fun zz => h4 ((unb z4).mpr zz)
    obtain ⟨w, rfl⟩ : ∃ w, h = w + 1 := ⟨h - 1, by omega⟩
    refine k_aload_n 10 11 C dX4_undo_10 rfl 0 rfl ?_
    refine k_dup 11 12 C dX4_undo_11 rfl rfl ?_
    refine k_get 12 15 C dX4_undo_12 rfl ci_X4 3 fl_X4_34 (IsMdl.o ‹_›) (by decide) rfl ?_
    refine k_rwI (y := nI (w + 1)) hh.1 ?_
    refine k_iconst 15 16 C dX4_undo_15 rfl (v := 1) rfl ?_
    refine k_isub 16 17 C dX4_undo_16 rfl  ?_
    refine k_rwI (y := nI w) (pk_sub (a := w + 1) (b := 1) (by omega)) ?_
    refine k_put 17 20 C dX4_undo_17 rfl ci_X4 3 fl_X4_34 (IsMdl.o ‹_›) (by decide) rfl rfl rfl wI_off (ps_4_3 _ _ _ _) ?_
    refine k_aload_n 20 21 C dX4_undo_20 rfl 0 rfl ?_
    refine k_getF 21 24 C dX4_undo_21 rfl ci_X4 2 fl_X4_16 (IsMdl.o ‹_›) (by decide) (IsMdl.f2 ‹_›) rfl ?_
    refine k_sipush 24 27 C dX4_undo_24 rfl (v := 915) rfl ?_
    refine k_aload_n 27 28 C dX4_undo_27 rfl 0 rfl ?_
    refine k_get 28 31 C dX4_undo_28 rfl ci_X4 3 fl_X4_34 (IsMdl.o ‹_›) (by decide) rfl ?_
    refine k_rwI (y := nI w) (by show (if M = M then upd (V.1 M) 3 _ else _) 3 = _; rw [if_pos rfl, pk_us]) ?_
    refine k_imul 31 32 C dX4_undo_31 rfl  ?_
    refine k_rwI (y := nI (915 * w)) (pk_mul (915) (w)) ?_
    refine k_aload_n 32 33 C dX4_undo_32 rfl 0 rfl ?_
    refine k_getF 33 36 C dX4_undo_33 rfl ci_X4 0 fl_X4_7 (IsMdl.o ‹_›) (by decide) (IsMdl.f0 ‹_›) rfl ?_
    refine k_iconst 36 37 C dX4_undo_36 rfl (v := 0) rfl ?_
    refine k_callSV 37 40 C [_, _, _, _] [] dX4_undo_37 rfl (ct_X4_bring hM.a2 hM.a0 (by omega) (show 915 * w + 915 ≤ 3660 by omega) (by decide) (by decide) (by decide)) mi_X4_bring ml_X4_38 st_X4_bring rfl rfl ⟨Nat.le_of_ble_eq_true rfl, Nat.le_of_ble_eq_true rfl⟩ (Nat.le_of_ble_eq_true rfl) (Nat.zero_le _) (Nat.zero_le _) (fun V37 p37 => ?_)
    subst p37
    refine k_aload_n 40 41 C dX4_undo_40 rfl 0 rfl ?_
    refine k_get 41 44 C dX4_undo_41 rfl ci_X4 3 fl_X4_34 (IsMdl.o ‹_›) (by decide) rfl ?_
    refine k_rwI (y := nI w) (undo_all hh).2.1.1 ?_
    refine k_iret 44 C dX4_undo_44 rfl ?_
    exact ⟨rfl, undo_all hh⟩
  · have z5 : h = 0 := (unb z4).mp h4
    subst z5
    refine k_ldc 7 9 C dX4_undo_7 rfl kc_X4_117 ?_
    refine k_iret 9 C dX4_undo_9 rfl ?_
    exact ⟨rfl, hf, hh, KpM.rf⟩
