/-! a call with a deep stack -/
theorem runS16 {p : Program} {l : Launch} {e : Env} {R : Room} {s : State} {m : MethodId} {args : Array Value} {below : List Frame} {meth : Method} {c : Code} {H : Heap} {locs : List Loc} {cells slots : Nat} {Ts ws : List Cond} {cc bytes : ByteArray} {nL maxL index n mc ms : Nat} {own : String} {y : MethodName} {ret : Option FieldType} {rm : Room} {Pc : Array Value → State → Prop} {Qc : Array Value → State → Outcome → State → Prop} {free : Addr → Prop} {As rest : List Value} {g : JFrame} (S : CallFix p m c cc nL s args Ts own) (hM : Met l y ws rm Pc Qc mc ms free) (cw : CallB R s args own index y bytes maxL ret ws rm mc ms n ∧ (Cond.static y).before args s = true) (h16 : 16 + (maxL + 11) + rm.locals ≤ R.locals) (hp : PreS s H Pc As)
    (hg : g.method = m) (hn : As.length = n) (hsize : g.locals.size = nL) (hstack : g.stack = As.reverse ++ rest) (hW : 2 * g.monitorRoom + (rest.map fun v => v.category).sum ≤ 16) (hdg : decode cc g.pc = .ok (.invokestatic index, 3)) (hf : cells + mc ≤ R.cells ∧ slots + ms ≤ R.slots) :
    va_Run p l e R s m args below meth c H locs cells slots mc ms g rest (Qc As.toArray) (free) := by
  have hK : Back l R p e below s args y 3 16 (PreOf R mc ms Pc) (PostOf Qc mc ms free) := by
    obtain ⟨hrc, hrs, hfr, hlo, hws, hcw, -, hini, -⟩ := cw.1
    exact back_of (bytes := bytes) (maxL := maxL) (ret := ret) hM hp.1 hrc hrs hfr h16 hws hcw (fun a' U hW => word_at hW (Or.inl (by first | rfl | simp [Cond.onTables, Cond.keeps, Cond.steady])) hini)
  obtain ⟨⟨-, -, -, -, -, -, hcode, hini, hy, hlen, hl⟩, hstt⟩ := cw
  obtain ⟨hx, hb, hml, ho, -⟩ := S
  intro T hT X
  obtain ⟨v, vm₁, ⟨U', l2, c2, s2⟩, hW₁, X', ⟨g', mk, t, L, e1, e2, hq, h1, hL, h2, h3⟩, st⟩ := callS X hx (bytes := bytes) (maxL := maxL) (ret := ret) ho hl hstt hini hcode hy hK hg (hsize.trans hml.symm) (argsL := As) (rest := rest) (fun sig h => hn.trans (hlen sig h)) hstack hW (by rw [hb]; exact hdg)
    (fun vm₁ hW₁ => ⟨hf.1, hf.2, hp.2 (T.setVm vm₁) hT hW₁⟩)
  dsimp only [Pt.U, Pt.locs, Pt.cells, Pt.slots] at X' e1 e2 h1 h2 h3 st
  subst h1; subst h2; subst h3
  exact ⟨v, (T.setVm vm₁).calling g' mk As.toArray, t, U', L, hT, X', hL, e1, e2, hq, st⟩
/-! the questions -/
theorem ok_w {x : Int32} {N : Nat} (hN : N < 4000) (h : okR x 0 (nI N)) : ∃ w, w ≤ N ∧ x = nI w ∧ (nI w).toNatClampNeg = w := by
  obtain ⟨w, zw, rfl⟩ := nI_of h.1
  refine ⟨w, ?_, rfl, nI_clamp zw⟩
  have h2 := i32_not_lt.mp h.2
  rw [nI_leI zw (by omega)] at h2; exact h2
theorem d2_3 {w : Nat} (h : w ≤ 3) : nI w / 2 = nI (w / 2) ∧ nI w - nI w / 2 * 2 = nI (w % 2) := by
  have z : w = 0 ∨ w = 1 ∨ w = 2 ∨ w = 3 := by omega
  rcases z with rfl | rfl | rfl | rfl <;> exact ⟨by decide, by decide⟩
abbrev isPt (n : Nat) (np : Nat → Nat) (i x : Int32) : Prop := (¬ i < 0 ∧ ¬ nI n ≤ i) ∧ ¬ x < 0 ∧ ¬ nI (np i.toNatClampNeg) ≤ x
theorem isPt_n {n : Nat} {np : Nat → Nat} {f : Nat → Int64} (hw : PWf f n np) {i x : Int32} (h : isPt n np i x) : ∃ d k, d < n ∧ k < np d ∧ np d ≤ 20 ∧ i = nI d ∧ x = nI k ∧ (nI d).toNatClampNeg = d ∧ (nI k).toNatClampNeg = k := by
  have z6 := hw.2.1
  obtain ⟨d, zd, rfl, zc⟩ := inM_n (by omega) h.1
  have z20 := (hw.2.2 d zd).2
  obtain ⟨k, zk, rfl⟩ := nI_of h.2.1
  have h2 := h.2.2
  rw [zc, nI_leI (by omega) zk] at h2
  exact ⟨d, k, zd, by omega, z20, rfl, rfl, zc, nI_clamp zk⟩
def mRat (f : Nat → Int64) (n : Nat) (i q : Int32) : Int32 := if inM n i ∧ okR q 0 1 then (f (hdC i.toNatClampNeg (2 + q.toNatClampNeg))).toInt32 else -2000000001
def mPI (f : Nat → Int64) (n : Nat) (np : Nat → Nat) (i x q : Int32) : Int64 := if isPt n np i x ∧ okR q 0 6 then f (ceC i.toNatClampNeg x.toNatClampNeg + q.toNatClampNeg) else -2000000001
def aoN (f : Nat → Int64) (d k ax : Nat) : Int64 := plN (f (hdC d (6 + 2 * ax))) (f (hdC d (6 + 2 * ax) + 1)) (f (hdC d (4 + ax)) * f (ceC (mRt f (d + 1) d) k + 2 * ax)) (f (hdC d 2)) (f (hdC d 3))
def aoD (f : Nat → Int64) (d ax : Nat) : Int64 := plD (f (hdC d (6 + 2 * ax) + 1)) (f (hdC d 3))
def mAO (f : Nat → Int64) (n : Nat) (np : Nat → Nat) (i x q : Int32) : Int64 := if isPt n np i x ∧ okR q 0 3 then (if q.toNatClampNeg % 2 = 0 then rdN (aoN f i.toNatClampNeg x.toNatClampNeg (q.toNatClampNeg / 2)) (aoD f i.toNatClampNeg (q.toNatClampNeg / 2)) else rdD (aoN f i.toNatClampNeg x.toNatClampNeg (q.toNatClampNeg / 2)) (aoD f i.toNatClampNeg (q.toNatClampNeg / 2))) else -2000000001
def mfN (f : Nat → Int64) (d b : Nat) : Int64 := rdN (f (hdC d 2) * f (hdC b 2 + 1)) (f (hdC d 2 + 1) * f (hdC b 2))
def mfD (f : Nat → Int64) (d b : Nat) : Int64 := rdD (f (hdC d 2) * f (hdC b 2 + 1)) (f (hdC d 2 + 1) * f (hdC b 2))
def mAF (f : Nat → Int64) (n : Nat) (i j : Int32) : Int32 := if inM n i ∧ inM n j then (if 20 < mfN f i.toNatClampNeg j.toNatClampNeg ∨ 20 < mfD f i.toNatClampNeg j.toNatClampNeg then -2000000004 else (100 * mfN f i.toNatClampNeg j.toNatClampNeg + mfD f i.toNatClampNeg j.toNatClampNeg).toInt32) else -2000000001
abbrev sm4 (f : Nat → Int64) (d b k : Nat) : Prop := f (ceC d k + 0) = f (ceC b k + 0) ∧ f (ceC d k + 1) = f (ceC b k + 1) ∧ f (ceC d k + 2) = f (ceC b k + 2) ∧ f (ceC d k + 3) = f (ceC b k + 3)
def mAlk (f : Nat → Int64) (d b : Nat) : Nat → Int32
  | 0 => 0
  | k + 1 => mAlk f d b k + (if sm4 f d b k then 1 else 0)
def mAl (f : Nat → Int64) (n : Nat) (np : Nat → Nat) (i j : Int32) : Int32 := if inM n i ∧ inM n j then mAlk f i.toNatClampNeg j.toNatClampNeg (min (np i.toNatClampNeg) (np j.toNatClampNeg)) else -2000000001
theorem mRt_le {f : Nat → Int64} {n : Nat} (hn6 : n ≤ 6) (hP : ParOK f n) : ∀ (w d : Nat), d < n → mRt f w d ≤ d
  | 0, d, _ => Nat.le_refl d
  | w + 1, d, hd => by
    unfold mRt
    rcases hP d hd with h | ⟨q, hq, h⟩
    · rw [if_pos h]; exact Nat.le_refl d
    · split
      · exact Nat.le_refl d
      · rw [h, nI_clamp (show q < 2 ^ 31 by omega)]
        exact Nat.le_trans (mRt_le hn6 hP w q (by omega)) (by omega)
theorem k_callSI16 {E : gE} {T : gT} {V : gV} {p : Program} {l : Launch} {e : Env} {R : Room} {s : State} {m : MethodId} {args : Array Value} {below : List Frame} {meth : Method} {c : Code} {own : String} {cc : ByteArray} {nL : Nat} {ret : Option FieldType} {k n : Nat} {Q : State → Prop} {L : List (Nat × Value)} {st : List Value} (pc q : Nat) (C : Cx E p s m args meth c own cc nL ret) {y : MethodName} {cc' : ByteArray} {maxL N ix : Nat} {ret' : Option FieldType} {f lo : Nat}  {Post : Int32 → gV → Prop} (As rest : List Value) (hd : decode cc pc = .ok (.invokestatic ix, 3)) (hq : pc + 3 = q) (hM : CtI E T l y (gw y cc' maxL ret') { frames := f, cells := 0, slots := 0, locals := lo } As V Post) (I : MI y cc' maxL ret' N) (hw : Cond.methodLink own ix y ∈ GW) (hstt : Cond.static y ∈ GW) (hn : As.length = N) (hst : st = As.reverse ++ rest) (hroom : f + 1 ≤ R.frames ∧ 16 + (maxL + 11) + lo ≤ R.locals) (hcat : (rest.map fun v => v.category).sum ≤ 16) (hk0 : k ≤ R.cells) (hn0 : n ≤ R.slots)
    (kk : ∀ (r : Int32) (V' : gV), Post r V' → KW E T V' p l e R s m args below meth c nL k n Q q L (.int r :: rest)) : KW E T V p l e R s m args below meth c nL k n Q pc L st := by
  subst hq
  intro H ls locs hR hS hl
  refine va_calli (runS16 (As := As) (rest := rest) ⟨C.x, C.b, C.ml, C.ow, C.ts⟩ hM ⟨C.cb I hw rfl rfl ⟨hroom.1, by have := hroom.2; show 8 + (maxL + 11) + lo ≤ R.locals; omega⟩, C.ts _ hstt⟩ hroom.2 (C.pre hR hS) rfl hn hl.1 hst (by show 2 * 0 + _ ≤ 16; omega) hd ⟨hk0, hn0⟩) hS (fun q _ h => h) (fun q h => h) (fun r u t H1 locs1 ht hvm hw hB hz1 hk1 hS1 => ?_)
  exact kk r u hw H1 ls locs1 (ht ▸ hB.1) hS1 hl

set_option maxHeartbeats 4000000 in
set_option maxRecDepth 100000 in
theorem ct_X4_ratio {E : gE} {T : gT} {l : Launch} {V : gV} {i q : Int32} {M n : Nat} {f : Nat → Int64} {np : Nat → Nat} (hM : IsMdl T M) (hf : PQ V M f) (hw : PWf f n np) : CtI E T l yX4_ratio (gw yX4_ratio cX4_ratio 3 (some .int)) { frames := 2, cells := 0, slots := 0, locals := 43 } [.ref M, .int i, .int q] V (fun (r : Int32) (V' : gV) => V' = V ∧ r = mRat f n i q) := by
  refine ctI_of (L := [(0, .ref M), (1, .int i), (2, .int q)]) (by decide) rfl (Nat.le_of_ble_eq_true rfl) rfl (fun p e s m args below meth c C => ?_)
  have z6 := hw.2.1
  refine k_aload_n 0 1 C dX4_ratio_0 rfl 0 rfl ?_
  refine k_iload_n 1 2 C dX4_ratio_1 rfl 1 rfl ?_
  refine k_callVI 2 5 C [_] [] dX4_ratio_2 rfl (ct_X4_isDrawing hM hf hw) mi_X4_isDrawing ml_X4_89 im_X4_isDrawing se_X4_isDrawing ci_X4 (IsMdl.o ‹_›) rfl rfl ⟨Nat.le_of_ble_eq_true rfl, Nat.le_of_ble_eq_true rfl⟩ (Nat.le_of_ble_eq_true rfl) (Nat.zero_le _) (Nat.zero_le _) (fun r2 V2 p2 => ?_)
  obtain ⟨rfl, rfl⟩ := And.intro p2.1.symm p2.2
  refine k_ifb_eq 5 31 8 C dX4_ratio_5 (by decide) rfl (fun h5 => ?_) (fun h5 => ?_)
  · have ee : mRat f n i q = -2000000001 := by unfold mRat; rw [if_neg (fun zz => h5 zz.1)]
    refine k_ldc 31 33 C dX4_ratio_31 rfl kc_X4_61 ?_
    refine k_iret 33 C dX4_ratio_33 rfl ?_
    exact ⟨rfl, ee.symm⟩
  · refine k_iload_n 8 9 C dX4_ratio_8 rfl 2 rfl ?_
    refine k_iconst 9 10 C dX4_ratio_9 rfl (v := 0) rfl ?_
    refine k_iconst 10 11 C dX4_ratio_10 rfl (v := 1) rfl ?_
    refine k_callSI 11 14 C [_, _, _] [] dX4_ratio_11 rfl ct_X4_in mi_X4_in ml_X4_57 st_X4_in rfl rfl ⟨Nat.le_of_ble_eq_true rfl, Nat.le_of_ble_eq_true rfl⟩ (Nat.le_of_ble_eq_true rfl) (Nat.zero_le _) (Nat.zero_le _) (fun r11 V11 p11 => ?_)
    obtain ⟨rfl, rfl⟩ := And.intro p11.1.symm p11.2
    refine k_ifb_eq 14 31 17 C dX4_ratio_14 (by decide) rfl (fun h14 => ?_) (fun h14 => ?_)
    · have ee : mRat f n i q = -2000000001 := by unfold mRat; rw [if_neg (fun zz => h14 zz.2)]
      refine k_ldc 31 33 C dX4_ratio_31 rfl kc_X4_61 ?_
      refine k_iret 33 C dX4_ratio_33 rfl ?_
      exact ⟨rfl, ee.symm⟩
    · obtain ⟨d, zd, rfl, zc⟩ := inM_n (by omega) h5
      obtain ⟨w, zw, rfl, zv⟩ := ok_w (N := 1) (by decide) h14
      have ee : mRat f n (nI d) (nI w) = (f (hdC d (2 + w))).toInt32 := by unfold mRat; rw [if_pos ⟨h5, h14⟩, zc, zv]
      refine k_aload_n 17 18 C dX4_ratio_17 rfl 0 rfl ?_
      refine k_iload_n 18 19 C dX4_ratio_18 rfl 1 rfl ?_
      refine k_iconst 19 20 C dX4_ratio_19 rfl (v := 2) rfl ?_
      refine k_iload_n 20 21 C dX4_ratio_20 rfl 2 rfl ?_
      refine k_iadd 21 22 C dX4_ratio_21 rfl  ?_
      refine k_rwI (y := nI (2 + w)) (nI_add 2 w) ?_
      refine k_callSI 22 25 C [_, _] [_] dX4_ratio_22 rfl (ct_X4_head (d := d) (k := 2 + w)) mi_X4_head ml_X4_85 st_X4_head rfl rfl ⟨Nat.le_of_ble_eq_true rfl, Nat.le_of_ble_eq_true rfl⟩ (Nat.le_of_ble_eq_true rfl) (Nat.zero_le _) (Nat.zero_le _) (fun r22 V22 p22 => ?_)
      obtain ⟨rfl, rfl⟩ := And.intro p22.1.symm p22.2
      refine k_callVI 25 28 C [_] [] dX4_ratio_25 rfl (ct_X4_of (k := hdC d (2 + w)) (by first | omega | (simp only [hdC, ceC]; omega)) hM (hf)) mi_X4_of ml_X4_65 im_X4_of se_X4_of ci_X4 (IsMdl.o ‹_›) rfl rfl ⟨Nat.le_of_ble_eq_true rfl, Nat.le_of_ble_eq_true rfl⟩ (Nat.le_of_ble_eq_true rfl) (Nat.zero_le _) (Nat.zero_le _) (fun r25 V25 p25 => ?_)
      obtain ⟨rfl, rfl⟩ := And.intro p25.1.symm p25.2
      refine k_goto 28 33 C dX4_ratio_28 (by decide) ?_
      refine k_iret 33 C dX4_ratio_33 rfl ?_
      exact ⟨rfl, ee.symm⟩
set_option maxHeartbeats 4000000 in
set_option maxRecDepth 100000 in
theorem ct_X4_pointInfo {E : gE} {T : gT} {l : Launch} {V : gV} {i x q : Int32} {M n : Nat} {f : Nat → Int64} {np : Nat → Nat} (hM : IsMdl T M) (hf : PQ V M f) (hw : PWf f n np) : CtL E T l yX4_pointInfo (gw yX4_pointInfo cX4_pointInfo 4 (some .long)) { frames := 3, cells := 0, slots := 0, locals := 65 } [.ref M, .int i, .int x, .int q] V (fun (r : Int64) (V' : gV) => V' = V ∧ r = mPI f n np i x q) := by
  refine ctL_of (L := [(0, .ref M), (1, .int i), (2, .int x), (3, .int q)]) (by decide) rfl (Nat.le_of_ble_eq_true rfl) rfl (fun p e s m args below meth c C => ?_)
  have z6 := hw.2.1
  refine k_aload_n 0 1 C dX4_pointInfo_0 rfl 0 rfl ?_
  refine k_iload_n 1 2 C dX4_pointInfo_1 rfl 1 rfl ?_
  refine k_iload_n 2 3 C dX4_pointInfo_2 rfl 2 rfl ?_
  refine k_callVI 3 6 C [_, _] [] dX4_pointInfo_3 rfl (ct_X4_isPoint hM hf hw) mi_X4_isPoint ml_X4_187 im_X4_isPoint se_X4_isPoint ci_X4 (IsMdl.o ‹_›) rfl rfl ⟨Nat.le_of_ble_eq_true rfl, Nat.le_of_ble_eq_true rfl⟩ (Nat.le_of_ble_eq_true rfl) (Nat.zero_le _) (Nat.zero_le _) (fun r3 V3 p3 => ?_)
  obtain ⟨rfl, rfl⟩ := And.intro p3.1.symm p3.2
  refine k_ifb_eq 6 34 9 C dX4_pointInfo_6 (by decide) rfl (fun h6 => ?_) (fun h6 => ?_)
  · have ee : mPI f n np i x q = -2000000001 := by unfold mPI; rw [if_neg (fun zz => h6 zz.1)]
    refine k_ldc2 34 37 C dX4_pointInfo_34 rfl kl_X4_190 ?_
    refine k_lret 37 C dX4_pointInfo_37 rfl ?_
    exact ⟨rfl, ee.symm⟩
  · refine k_iload_n 9 10 C dX4_pointInfo_9 rfl 3 rfl ?_
    refine k_iconst 10 11 C dX4_pointInfo_10 rfl (v := 0) rfl ?_
    refine k_bipush 11 13 C dX4_pointInfo_11 rfl (v := 6) rfl ?_
    refine k_callSI 13 16 C [_, _, _] [] dX4_pointInfo_13 rfl ct_X4_in mi_X4_in ml_X4_57 st_X4_in rfl rfl ⟨Nat.le_of_ble_eq_true rfl, Nat.le_of_ble_eq_true rfl⟩ (Nat.le_of_ble_eq_true rfl) (Nat.zero_le _) (Nat.zero_le _) (fun r13 V13 p13 => ?_)
    obtain ⟨rfl, rfl⟩ := And.intro p13.1.symm p13.2
    refine k_ifb_eq 16 34 19 C dX4_pointInfo_16 (by decide) rfl (fun h16 => ?_) (fun h16 => ?_)
    · have ee : mPI f n np i x q = -2000000001 := by unfold mPI; rw [if_neg (fun zz => h16 zz.2)]
      refine k_ldc2 34 37 C dX4_pointInfo_34 rfl kl_X4_190 ?_
      refine k_lret 37 C dX4_pointInfo_37 rfl ?_
      exact ⟨rfl, ee.symm⟩
    · obtain ⟨d, k, zd, zk, z20, rfl, rfl, zc, zv⟩ := isPt_n hw h6
      obtain ⟨w, zw, rfl, zu⟩ := ok_w (N := 6) (by decide) h16
      have ee : mPI f n np (nI d) (nI k) (nI w) = f (ceC d k + w) := by unfold mPI; rw [if_pos ⟨h6, h16⟩, zc, zv, zu]
      refine k_aload_n 19 20 C dX4_pointInfo_19 rfl 0 rfl ?_
      refine k_getF 20 23 C dX4_pointInfo_20 rfl ci_X4 0 fl_X4_7 (IsMdl.o ‹_›) (by decide) (IsMdl.f0 ‹_›) rfl ?_
      refine k_iload_n 23 24 C dX4_pointInfo_23 rfl 1 rfl ?_
      refine k_iload_n 24 25 C dX4_pointInfo_24 rfl 2 rfl ?_
      refine k_callSI 25 28 C [_, _] [_] dX4_pointInfo_25 rfl (ct_X4_cellOf (d := d) (k := k)) mi_X4_cellOf ml_X4_104 st_X4_cellOf rfl rfl ⟨Nat.le_of_ble_eq_true rfl, Nat.le_of_ble_eq_true rfl⟩ (Nat.le_of_ble_eq_true rfl) (Nat.zero_le _) (Nat.zero_le _) (fun r25 V25 p25 => ?_)
      obtain ⟨rfl, rfl⟩ := And.intro p25.1.symm p25.2
      refine k_iload_n 28 29 C dX4_pointInfo_28 rfl 3 rfl ?_
      refine k_iadd 29 30 C dX4_pointInfo_29 rfl  ?_
      refine k_rwI (y := nI (ceC d k + w)) (nI_add _ w) ?_
      refine k_laldP 30 31 C dX4_pointInfo_30 rfl ‹_› (f := f) (hf) (c0 := ceC d k + w) (by first | omega | (simp only [hdC, ceC]; omega)) ?_
      refine k_goto 31 37 C dX4_pointInfo_31 (by decide) ?_
      refine k_lret 37 C dX4_pointInfo_37 rfl ?_
      exact ⟨rfl, ee.symm⟩
set_option maxHeartbeats 4000000 in
set_option maxRecDepth 100000 in
theorem ct_X4_atOnce {E : gE} {T : gT} {l : Launch} {V : gV} {i x q : Int32} {M n : Nat} {f : Nat → Int64} {np : Nat → Nat} (hM : IsMdl T M) (hf : PQ V M f) (hw : PWf f n np) (hP : ParOK f n) (hA : ∀ d, d < n → ∀ ax, ax < 2 → ¬ dvs (f (hdC d (6 + 2 * ax) + 1)) (f (hdC d 3)) = 0) : CtL E T l yX4_atOnce (gw yX4_atOnce cX4_atOnce 10 (some .long)) { frames := 4, cells := 0, slots := 0, locals := 108 } [.ref M, .int i, .int x, .int q] V (fun (r : Int64) (V' : gV) => Pg V V' M f ∧ r = mAO f n np i x q) := by
  refine ctL_of (L := [(0, .ref M), (1, .int i), (2, .int x), (3, .int q)]) (by decide) rfl (Nat.le_of_ble_eq_true rfl) rfl (fun p e s m args below meth c C => ?_)
  have z6 := hw.2.1
  refine k_aload_n 0 1 C dX4_atOnce_0 rfl 0 rfl ?_
  refine k_iload_n 1 2 C dX4_atOnce_1 rfl 1 rfl ?_
  refine k_iload_n 2 3 C dX4_atOnce_2 rfl 2 rfl ?_
  refine k_callVI 3 6 C [_, _] [] dX4_atOnce_3 rfl (ct_X4_isPoint hM hf hw) mi_X4_isPoint ml_X4_187 im_X4_isPoint se_X4_isPoint ci_X4 (IsMdl.o ‹_›) rfl rfl ⟨Nat.le_of_ble_eq_true rfl, Nat.le_of_ble_eq_true rfl⟩ (Nat.le_of_ble_eq_true rfl) (Nat.zero_le _) (Nat.zero_le _) (fun r3 V3 p3 => ?_)
  obtain ⟨rfl, rfl⟩ := And.intro p3.1.symm p3.2
  refine k_ifb_eq 6 18 9 C dX4_atOnce_6 (by decide) rfl (fun h6 => ?_) (fun h6 => ?_)
  · have ee : mAO f n np i x q = -2000000001 := by unfold mAO; rw [if_neg (fun zz => h6 zz.1)]
    refine k_ldc2 18 21 C dX4_atOnce_18 rfl kl_X4_190 ?_
    refine k_lret 21 C dX4_atOnce_21 rfl ?_
    exact ⟨Pg.rf hf, ee.symm⟩
  · refine k_iload_n 9 10 C dX4_atOnce_9 rfl 3 rfl ?_
    refine k_iconst 10 11 C dX4_atOnce_10 rfl (v := 0) rfl ?_
    refine k_iconst 11 12 C dX4_atOnce_11 rfl (v := 3) rfl ?_
    refine k_callSI 12 15 C [_, _, _] [] dX4_atOnce_12 rfl ct_X4_in mi_X4_in ml_X4_57 st_X4_in rfl rfl ⟨Nat.le_of_ble_eq_true rfl, Nat.le_of_ble_eq_true rfl⟩ (Nat.le_of_ble_eq_true rfl) (Nat.zero_le _) (Nat.zero_le _) (fun r12 V12 p12 => ?_)
    obtain ⟨rfl, rfl⟩ := And.intro p12.1.symm p12.2
    refine k_ifb_ne 15 22 18 C dX4_atOnce_15 (by decide) rfl (fun h15 => ?_) (fun h15 => ?_)
    · obtain ⟨d, k, zd, zk, z20, rfl, rfl, zc, zv⟩ := isPt_n hw h6
      obtain ⟨w, zw, rfl, zu⟩ := ok_w (N := 3) (by decide) h15
      have ee : mAO f n np (nI d) (nI k) (nI w) = (if w % 2 = 0 then rdN (aoN f d k (w / 2)) (aoD f d (w / 2)) else rdD (aoN f d k (w / 2)) (aoD f d (w / 2))) := by unfold mAO; rw [if_pos ⟨h6, h15⟩, zc, zv, zu]
      have zr := mRt_le z6 hP (d + 1) d zd
      refine k_iload_n 22 23 C dX4_atOnce_22 rfl 3 rfl ?_
      refine k_iconst 23 24 C dX4_atOnce_23 rfl (v := 2) rfl ?_
      refine k_idiv 24 25 C dX4_atOnce_24 rfl (by decide) ?_
      refine k_rwI (y := nI (w / 2)) (d2_3 zw).1 ?_
      refine k_istore 25 27 C [(4, _), (0, _), (1, _), (2, _), (3, _)] dX4_atOnce_25 rfl (by decide) rfl ?_
      refine k_iload_n 27 28 C dX4_atOnce_27 rfl 2 rfl ?_
      refine k_bipush 28 30 C dX4_atOnce_28 rfl (v := 6) rfl ?_
      refine k_iconst 30 31 C dX4_atOnce_30 rfl (v := 2) rfl ?_
      refine k_iload 31 33 C dX4_atOnce_31 rfl 0 rfl ?_
      refine k_imul 33 34 C dX4_atOnce_33 rfl  ?_
      refine k_rwI (y := nI ((2) * (w / 2))) (pk_mul (2) (w / 2)) ?_
      refine k_iadd 34 35 C dX4_atOnce_34 rfl  ?_
      refine k_rwI (y := nI ((6) + ((2) * (w / 2)))) (nI_add (6) ((2) * (w / 2))) ?_
      refine k_callSI 35 38 C [_, _] [] dX4_atOnce_35 rfl (ct_X4_head (d := d) (k := 6 + 2 * (w / 2))) mi_X4_head ml_X4_85 st_X4_head rfl rfl ⟨Nat.le_of_ble_eq_true rfl, Nat.le_of_ble_eq_true rfl⟩ (Nat.le_of_ble_eq_true rfl) (Nat.zero_le _) (Nat.zero_le _) (fun r35 V35 p35 => ?_)
      obtain ⟨rfl, rfl⟩ := And.intro p35.1.symm p35.2
      refine k_istore 38 40 C [(5, _), (4, _), (0, _), (1, _), (2, _), (3, _)] dX4_atOnce_38 rfl (by decide) rfl ?_
      refine k_aload_n 40 41 C dX4_atOnce_40 rfl 2 rfl ?_
      refine k_getF 41 44 C dX4_atOnce_41 rfl ci_X4 0 fl_X4_7 (IsMdl.o ‹_›) (by decide) (IsMdl.f0 ‹_›) rfl ?_
      refine k_aload_n 44 45 C dX4_atOnce_44 rfl 2 rfl ?_
      refine k_iload_n 45 46 C dX4_atOnce_45 rfl 3 rfl ?_
      refine k_callVI 46 49 C [_] [_] dX4_atOnce_46 rfl (ct_X4_root zd z6 hP hM hf) mi_X4_root ml_X4_161 im_X4_root se_X4_root ci_X4 (IsMdl.o ‹_›) rfl rfl ⟨Nat.le_of_ble_eq_true rfl, Nat.le_of_ble_eq_true rfl⟩ (Nat.le_of_ble_eq_true rfl) (Nat.zero_le _) (Nat.zero_le _) (fun r46 V46 p46 => ?_)
      obtain ⟨rfl, rfl⟩ := And.intro p46.1.symm p46.2
      refine k_iload_n 49 50 C dX4_atOnce_49 rfl 4 rfl ?_
      refine k_callSI 50 53 C [_, _] [_] dX4_atOnce_50 rfl (ct_X4_cellOf (d := mRt f (d + 1) d) (k := k)) mi_X4_cellOf ml_X4_104 st_X4_cellOf rfl rfl ⟨Nat.le_of_ble_eq_true rfl, Nat.le_of_ble_eq_true rfl⟩ (Nat.le_of_ble_eq_true rfl) (Nat.zero_le _) (Nat.zero_le _) (fun r50 V50 p50 => ?_)
      obtain ⟨rfl, rfl⟩ := And.intro p50.1.symm p50.2
      refine k_iconst 53 54 C dX4_atOnce_53 rfl (v := 2) rfl ?_
      refine k_iload 54 56 C dX4_atOnce_54 rfl 1 rfl ?_
      refine k_imul 56 57 C dX4_atOnce_56 rfl  ?_
      refine k_rwI (y := nI ((2) * (w / 2))) (pk_mul (2) (w / 2)) ?_
      refine k_iadd 57 58 C dX4_atOnce_57 rfl  ?_
      refine k_rwI (y := nI ((ceC (mRt f (d + 1) d) k) + ((2) * (w / 2)))) (nI_add (ceC (mRt f (d + 1) d) k) ((2) * (w / 2))) ?_
      refine k_laldP 58 59 C dX4_atOnce_58 rfl ‹_› (f := f) (hf) (c0 := (ceC (mRt f (d + 1) d) k) + ((2) * (w / 2))) (by first | omega | (simp only [hdC, ceC]; omega)) ?_
      refine k_lstore 59 61 C [(6, _), (5, _), (4, _), (0, _), (1, _), (2, _), (3, _)] dX4_atOnce_59 rfl (by decide) rfl ?_
      refine k_aload_n 61 62 C dX4_atOnce_61 rfl 3 rfl ?_
      refine k_getF 62 65 C dX4_atOnce_62 rfl ci_X4 0 fl_X4_7 (IsMdl.o ‹_›) (by decide) (IsMdl.f0 ‹_›) rfl ?_
      refine k_iload_n 65 66 C dX4_atOnce_65 rfl 4 rfl ?_
      refine k_iconst 66 67 C dX4_atOnce_66 rfl (v := 4) rfl ?_
      refine k_iload 67 69 C dX4_atOnce_67 rfl 2 rfl ?_
      refine k_iadd 69 70 C dX4_atOnce_69 rfl  ?_
      refine k_rwI (y := nI ((4) + (w / 2))) (nI_add (4) (w / 2)) ?_
      refine k_callSI 70 73 C [_, _] [_] dX4_atOnce_70 rfl (ct_X4_head (d := d) (k := 4 + w / 2)) mi_X4_head ml_X4_85 st_X4_head rfl rfl ⟨Nat.le_of_ble_eq_true rfl, Nat.le_of_ble_eq_true rfl⟩ (Nat.le_of_ble_eq_true rfl) (Nat.zero_le _) (Nat.zero_le _) (fun r70 V70 p70 => ?_)
      obtain ⟨rfl, rfl⟩ := And.intro p70.1.symm p70.2
      refine k_laldP 73 74 C dX4_atOnce_73 rfl ‹_› (f := f) (hf) (c0 := hdC d (4 + w / 2)) (by first | omega | (simp only [hdC, ceC]; omega)) ?_
      refine k_lload 74 76 C dX4_atOnce_74 rfl 0 rfl ?_
      refine k_lmul 76 77 C dX4_atOnce_76 rfl  ?_
      refine k_lstore 77 79 C [(8, _), (6, _), (5, _), (4, _), (0, _), (1, _), (2, _), (3, _)] dX4_atOnce_77 rfl (by decide) rfl ?_
      refine k_aload_n 79 80 C dX4_atOnce_79 rfl 4 rfl ?_
      refine k_aload_n 80 81 C dX4_atOnce_80 rfl 4 rfl ?_
      refine k_getF 81 84 C dX4_atOnce_81 rfl ci_X4 0 fl_X4_7 (IsMdl.o ‹_›) (by decide) (IsMdl.f0 ‹_›) rfl ?_
      refine k_iload 84 86 C dX4_atOnce_84 rfl 2 rfl ?_
      refine k_laldP 86 87 C dX4_atOnce_86 rfl ‹_› (f := f) (hf) (c0 := hdC d (6 + 2 * (w / 2))) (by first | omega | (simp only [hdC, ceC]; omega)) ?_
      refine k_aload_n 87 88 C dX4_atOnce_87 rfl 4 rfl ?_
      refine k_getF 88 91 C dX4_atOnce_88 rfl ci_X4 0 fl_X4_7 (IsMdl.o ‹_›) (by decide) (IsMdl.f0 ‹_›) rfl ?_
      refine k_iload 91 93 C dX4_atOnce_91 rfl 2 rfl ?_
      refine k_iconst 93 94 C dX4_atOnce_93 rfl (v := 1) rfl ?_
      refine k_iadd 94 95 C dX4_atOnce_94 rfl  ?_
      refine k_rwI (y := nI ((hdC d (6 + 2 * (w / 2))) + (1))) (nI_add (hdC d (6 + 2 * (w / 2))) (1)) ?_
      refine k_laldP 95 96 C dX4_atOnce_95 rfl ‹_› (f := f) (hf) (c0 := (hdC d (6 + 2 * (w / 2))) + (1)) (by first | omega | (simp only [hdC, ceC]; omega)) ?_
      refine k_lload 96 98 C dX4_atOnce_96 rfl 0 rfl ?_
      refine k_aload_n 98 99 C dX4_atOnce_98 rfl 4 rfl ?_
      refine k_getF 99 102 C dX4_atOnce_99 rfl ci_X4 0 fl_X4_7 (IsMdl.o ‹_›) (by decide) (IsMdl.f0 ‹_›) rfl ?_
      refine k_iload_n 102 103 C dX4_atOnce_102 rfl 5 rfl ?_
      refine k_iconst 103 104 C dX4_atOnce_103 rfl (v := 2) rfl ?_
      refine k_callSI 104 107 C [_, _] [_, _, _, _, _] dX4_atOnce_104 rfl (ct_X4_head (d := d) (k := 2)) mi_X4_head ml_X4_85 st_X4_head rfl rfl ⟨Nat.le_of_ble_eq_true rfl, Nat.le_of_ble_eq_true rfl⟩ (Nat.le_of_ble_eq_true rfl) (Nat.zero_le _) (Nat.zero_le _) (fun r104 V104 p104 => ?_)
      obtain ⟨rfl, rfl⟩ := And.intro p104.1.symm p104.2
      refine k_laldP 107 108 C dX4_atOnce_107 rfl ‹_› (f := f) (hf) (c0 := hdC d 2) (by first | omega | (simp only [hdC, ceC]; omega)) ?_
      refine k_aload_n 108 109 C dX4_atOnce_108 rfl 4 rfl ?_
      refine k_getF 109 112 C dX4_atOnce_109 rfl ci_X4 0 fl_X4_7 (IsMdl.o ‹_›) (by decide) (IsMdl.f0 ‹_›) rfl ?_
      refine k_iload_n 112 113 C dX4_atOnce_112 rfl 5 rfl ?_
      refine k_iconst 113 114 C dX4_atOnce_113 rfl (v := 3) rfl ?_
      refine k_callSI16 114 117 C [_, _] [_, _, _, _, _, _] dX4_atOnce_114 rfl (ct_X4_head (d := d) (k := 3)) mi_X4_head ml_X4_85 st_X4_head rfl rfl ⟨Nat.le_of_ble_eq_true rfl, Nat.le_of_ble_eq_true rfl⟩ (Nat.le_of_ble_eq_true rfl) (Nat.zero_le _) (Nat.zero_le _) (fun r114 V114 p114 => ?_)
      obtain ⟨rfl, rfl⟩ := And.intro p114.1.symm p114.2
      refine k_laldP 117 118 C dX4_atOnce_117 rfl ‹_› (f := f) (hf) (c0 := hdC d 3) (by first | omega | (simp only [hdC, ceC]; omega)) ?_
      refine k_callVV 118 121 C [_, _, _, _, _] [] dX4_atOnce_118 rfl (ct_X4_plus (hA d zd (w / 2) (by omega)) hM) mi_X4_plus ml_X4_107 im_X4_plus se_X4_plus ci_X4 (IsMdl.o ‹_›) rfl rfl ⟨Nat.le_of_ble_eq_true rfl, Nat.le_of_ble_eq_true rfl⟩ (Nat.le_of_ble_eq_true rfl) (Nat.zero_le _) (Nat.zero_le _) (fun V118 p118 => ?_)
      obtain ⟨g118, t118, u118⟩ := tl_all p118 (hf)
      refine k_iload_n 121 122 C dX4_atOnce_121 rfl 7 rfl ?_
      refine k_iconst 122 123 C dX4_atOnce_122 rfl (v := 2) rfl ?_
      refine k_irem 123 124 C dX4_atOnce_123 rfl (by decide) ?_
      refine k_rwI (y := nI (w % 2)) (d2_3 zw).2 ?_
      refine k_if_ne 124 134 127 C dX4_atOnce_124 (by decide) rfl (fun h124 => ?_) (fun h124 => ?_)
      · have z124 : ¬ w % 2 = 0 := fun zz => h124 (by rw [zz]; rfl)
        refine k_aload_n 134 135 C dX4_atOnce_134 rfl 4 rfl ?_
        refine k_get 135 138 C dX4_atOnce_135 rfl ci_X4 7 fl_X4_50 (IsMdl.o ‹_›) (by decide) rfl ?_
        refine k_rwL ((u118)) ?_
        refine k_lret 138 C dX4_atOnce_138 rfl ?_
        first
          | exact ⟨(Pg.rf hf).trans g118, by rw [ee, if_pos z124]; rfl⟩
          | exact ⟨(Pg.rf hf).trans g118, by rw [ee, if_neg z124]; rfl⟩
      · have z124 : w % 2 = 0 := (nI_eq (b := 0) (by omega) (by decide)).mp h124
        refine k_aload_n 127 128 C dX4_atOnce_127 rfl 4 rfl ?_
        refine k_get 128 131 C dX4_atOnce_128 rfl ci_X4 6 fl_X4_46 (IsMdl.o ‹_›) (by decide) rfl ?_
        refine k_rwL ((t118)) ?_
        refine k_goto 131 138 C dX4_atOnce_131 (by decide) ?_
        refine k_lret 138 C dX4_atOnce_138 rfl ?_
        first
          | exact ⟨(Pg.rf hf).trans g118, by rw [ee, if_pos z124]; rfl⟩
          | exact ⟨(Pg.rf hf).trans g118, by rw [ee, if_neg z124]; rfl⟩
    · have ee : mAO f n np i x q = -2000000001 := by unfold mAO; rw [if_neg (fun zz => h15 zz.2)]
      refine k_ldc2 18 21 C dX4_atOnce_18 rfl kl_X4_190 ?_
      refine k_lret 21 C dX4_atOnce_21 rfl ?_
      exact ⟨Pg.rf hf, ee.symm⟩
set_option maxHeartbeats 4000000 in
set_option maxRecDepth 100000 in
theorem ct_X4_armFor {E : gE} {T : gT} {l : Launch} {V : gV} {i j : Int32} {M n : Nat} {f : Nat → Int64} {np : Nat → Nat} (hM : IsMdl T M) (hf : PQ V M f) (hw : PWf f n np) : CtI E T l yX4_armFor (gw yX4_armFor cX4_armFor 5 (some .int)) { frames := 3, cells := 0, slots := 0, locals := 76 } [.ref M, .int i, .int j] V (fun (r : Int32) (V' : gV) => Pg V V' M f ∧ r = mAF f n i j) := by
  refine ctI_of (L := [(0, .ref M), (1, .int i), (2, .int j)]) (by decide) rfl (Nat.le_of_ble_eq_true rfl) rfl (fun p e s m args below meth c C => ?_)
  have z6 := hw.2.1
  refine k_aload_n 0 1 C dX4_armFor_0 rfl 0 rfl ?_
  refine k_iload_n 1 2 C dX4_armFor_1 rfl 1 rfl ?_
  refine k_callVI 2 5 C [_] [] dX4_armFor_2 rfl (ct_X4_isDrawing hM hf hw) mi_X4_isDrawing ml_X4_89 im_X4_isDrawing se_X4_isDrawing ci_X4 (IsMdl.o ‹_›) rfl rfl ⟨Nat.le_of_ble_eq_true rfl, Nat.le_of_ble_eq_true rfl⟩ (Nat.le_of_ble_eq_true rfl) (Nat.zero_le _) (Nat.zero_le _) (fun r2 V2 p2 => ?_)
  obtain ⟨rfl, rfl⟩ := And.intro p2.1.symm p2.2
  refine k_ifb_eq 5 16 8 C dX4_armFor_5 (by decide) rfl (fun h5 => ?_) (fun h5 => ?_)
  · have ee : mAF f n i j = -2000000001 := by unfold mAF; rw [if_neg (fun zz => h5 zz.1)]
    refine k_ldc 16 18 C dX4_armFor_16 rfl kc_X4_61 ?_
    refine k_iret 18 C dX4_armFor_18 rfl ?_
    exact ⟨Pg.rf hf, ee.symm⟩
  · refine k_aload_n 8 9 C dX4_armFor_8 rfl 0 rfl ?_
    refine k_iload_n 9 10 C dX4_armFor_9 rfl 2 rfl ?_
    refine k_callVI 10 13 C [_] [] dX4_armFor_10 rfl (ct_X4_isDrawing hM hf hw) mi_X4_isDrawing ml_X4_89 im_X4_isDrawing se_X4_isDrawing ci_X4 (IsMdl.o ‹_›) rfl rfl ⟨Nat.le_of_ble_eq_true rfl, Nat.le_of_ble_eq_true rfl⟩ (Nat.le_of_ble_eq_true rfl) (Nat.zero_le _) (Nat.zero_le _) (fun r10 V10 p10 => ?_)
    obtain ⟨rfl, rfl⟩ := And.intro p10.1.symm p10.2
    refine k_ifb_ne 13 19 16 C dX4_armFor_13 (by decide) rfl (fun h13 => ?_) (fun h13 => ?_)
    · obtain ⟨d, zd, rfl, zc⟩ := inM_n (by omega) h5
      obtain ⟨b, zb, rfl, zv⟩ := inM_n (by omega) h13
      have ee : mAF f n (nI d) (nI b) = (if 20 < mfN f d b ∨ 20 < mfD f d b then -2000000004 else (100 * mfN f d b + mfD f d b).toInt32) := by unfold mAF; rw [if_pos ⟨h5, h13⟩, zc, zv]
      refine k_iload_n 19 20 C dX4_armFor_19 rfl 1 rfl ?_
      refine k_iconst 20 21 C dX4_armFor_20 rfl (v := 2) rfl ?_
      refine k_callSI 21 24 C [_, _] [] dX4_armFor_21 rfl (ct_X4_head (d := d) (k := 2)) mi_X4_head ml_X4_85 st_X4_head rfl rfl ⟨Nat.le_of_ble_eq_true rfl, Nat.le_of_ble_eq_true rfl⟩ (Nat.le_of_ble_eq_true rfl) (Nat.zero_le _) (Nat.zero_le _) (fun r21 V21 p21 => ?_)
      obtain ⟨rfl, rfl⟩ := And.intro p21.1.symm p21.2
      refine k_istore_n 24 25 C [(3, _), (0, _), (1, _), (2, _)] dX4_armFor_24 rfl (by decide) rfl ?_
      refine k_iload_n 25 26 C dX4_armFor_25 rfl 3 rfl ?_
      refine k_iconst 26 27 C dX4_armFor_26 rfl (v := 2) rfl ?_
      refine k_callSI 27 30 C [_, _] [] dX4_armFor_27 rfl (ct_X4_head (d := b) (k := 2)) mi_X4_head ml_X4_85 st_X4_head rfl rfl ⟨Nat.le_of_ble_eq_true rfl, Nat.le_of_ble_eq_true rfl⟩ (Nat.le_of_ble_eq_true rfl) (Nat.zero_le _) (Nat.zero_le _) (fun r27 V27 p27 => ?_)
      obtain ⟨rfl, rfl⟩ := And.intro p27.1.symm p27.2
      refine k_istore 30 32 C [(4, _), (3, _), (0, _), (1, _), (2, _)] dX4_armFor_30 rfl (by decide) rfl ?_
      refine k_aload_n 32 33 C dX4_armFor_32 rfl 2 rfl ?_
      refine k_aload_n 33 34 C dX4_armFor_33 rfl 2 rfl ?_
      refine k_getF 34 37 C dX4_armFor_34 rfl ci_X4 0 fl_X4_7 (IsMdl.o ‹_›) (by decide) (IsMdl.f0 ‹_›) rfl ?_
      refine k_iload_n 37 38 C dX4_armFor_37 rfl 1 rfl ?_
      refine k_laldP 38 39 C dX4_armFor_38 rfl ‹_› (f := f) (hf) (c0 := hdC d 2) (by first | omega | (simp only [hdC, ceC]; omega)) ?_
      refine k_aload_n 39 40 C dX4_armFor_39 rfl 2 rfl ?_
      refine k_getF 40 43 C dX4_armFor_40 rfl ci_X4 0 fl_X4_7 (IsMdl.o ‹_›) (by decide) (IsMdl.f0 ‹_›) rfl ?_
      refine k_iload 43 45 C dX4_armFor_43 rfl 0 rfl ?_
      refine k_iconst 45 46 C dX4_armFor_45 rfl (v := 1) rfl ?_
      refine k_iadd 46 47 C dX4_armFor_46 rfl  ?_
      refine k_rwI (y := nI ((hdC b 2) + (1))) (nI_add (hdC b 2) (1)) ?_
      refine k_laldP 47 48 C dX4_armFor_47 rfl ‹_› (f := f) (hf) (c0 := (hdC b 2) + (1)) (by first | omega | (simp only [hdC, ceC]; omega)) ?_
      refine k_lmul 48 49 C dX4_armFor_48 rfl  ?_
      refine k_aload_n 49 50 C dX4_armFor_49 rfl 2 rfl ?_
      refine k_getF 50 53 C dX4_armFor_50 rfl ci_X4 0 fl_X4_7 (IsMdl.o ‹_›) (by decide) (IsMdl.f0 ‹_›) rfl ?_
      refine k_iload_n 53 54 C dX4_armFor_53 rfl 1 rfl ?_
      refine k_iconst 54 55 C dX4_armFor_54 rfl (v := 1) rfl ?_
      refine k_iadd 55 56 C dX4_armFor_55 rfl  ?_
      refine k_rwI (y := nI ((hdC d 2) + (1))) (nI_add (hdC d 2) (1)) ?_
      refine k_laldP 56 57 C dX4_armFor_56 rfl ‹_› (f := f) (hf) (c0 := (hdC d 2) + (1)) (by first | omega | (simp only [hdC, ceC]; omega)) ?_
      refine k_aload_n 57 58 C dX4_armFor_57 rfl 2 rfl ?_
      refine k_getF 58 61 C dX4_armFor_58 rfl ci_X4 0 fl_X4_7 (IsMdl.o ‹_›) (by decide) (IsMdl.f0 ‹_›) rfl ?_
      refine k_iload 61 63 C dX4_armFor_61 rfl 0 rfl ?_
      refine k_laldP 63 64 C dX4_armFor_63 rfl ‹_› (f := f) (hf) (c0 := hdC b 2) (by first | omega | (simp only [hdC, ceC]; omega)) ?_
      refine k_lmul 64 65 C dX4_armFor_64 rfl  ?_
      refine k_callVV 65 68 C [_, _] [] dX4_armFor_65 rfl (ct_X4_reduce hM) mi_X4_reduce ml_X4_53 im_X4_reduce se_X4_reduce ci_X4 (IsMdl.o ‹_›) rfl rfl ⟨Nat.le_of_ble_eq_true rfl, Nat.le_of_ble_eq_true rfl⟩ (Nat.le_of_ble_eq_true rfl) (Nat.zero_le _) (Nat.zero_le _) (fun V65 p65 => ?_)
      obtain ⟨g65, t65, u65⟩ := tl_all p65 (hf)
      refine k_aload_n 68 69 C dX4_armFor_68 rfl 2 rfl ?_
      refine k_get 69 72 C dX4_armFor_69 rfl ci_X4 6 fl_X4_46 (IsMdl.o ‹_›) (by decide) rfl ?_
      refine k_rwL ((t65)) ?_
      refine k_ldc2 72 75 C dX4_armFor_72 rfl kl_X4_192 ?_
      refine k_lcmp_gt 75 76 90 79 C dX4_armFor_75 rfl dX4_armFor_76 (by decide) rfl (fun h76 => ?_) (fun h76 => ?_)
      · have z1 : (if 20 < mfN f d b ∨ 20 < mfD f d b then (-2000000004 : Int32) else (100 * mfN f d b + mfD f d b).toInt32) = -2000000004 := if_pos (Or.inl h76)
        refine k_ldc 90 92 C dX4_armFor_90 rfl kc_X4_160 ?_
        refine k_goto 92 109 C dX4_armFor_92 (by decide) ?_
        refine k_iret 109 C dX4_armFor_109 rfl ?_
        first
          | exact ⟨(Pg.rf hf).trans g65, ee.symm⟩
          | exact ⟨(Pg.rf hf).trans g65, (ee.trans z1).symm⟩
      · refine k_aload_n 79 80 C dX4_armFor_79 rfl 2 rfl ?_
        refine k_get 80 83 C dX4_armFor_80 rfl ci_X4 7 fl_X4_50 (IsMdl.o ‹_›) (by decide) rfl ?_
        refine k_rwL ((u65)) ?_
        refine k_ldc2 83 86 C dX4_armFor_83 rfl kl_X4_192 ?_
        refine k_lcmp_le 86 87 95 90 C dX4_armFor_86 rfl dX4_armFor_87 (by decide) rfl (fun h87 => ?_) (fun h87 => ?_)
        · have z1 : (if 20 < mfN f d b ∨ 20 < mfD f d b then (-2000000004 : Int32) else (100 * mfN f d b + mfD f d b).toInt32) = (100 * mfN f d b + mfD f d b).toInt32 := if_neg (fun zz => by rcases zz with zz | zz; exact h76 zz; exact i64_not_lt.mpr h87 zz)
          refine k_ldc2 95 98 C dX4_armFor_95 rfl kl_X4_28 ?_
          refine k_aload_n 98 99 C dX4_armFor_98 rfl 2 rfl ?_
          refine k_get 99 102 C dX4_armFor_99 rfl ci_X4 6 fl_X4_46 (IsMdl.o ‹_›) (by decide) rfl ?_
          refine k_rwL ((t65)) ?_
          refine k_lmul 102 103 C dX4_armFor_102 rfl  ?_
          refine k_aload_n 103 104 C dX4_armFor_103 rfl 2 rfl ?_
          refine k_get 104 107 C dX4_armFor_104 rfl ci_X4 7 fl_X4_50 (IsMdl.o ‹_›) (by decide) rfl ?_
          refine k_rwL ((u65)) ?_
          refine k_ladd 107 108 C dX4_armFor_107 rfl  ?_
          refine k_l2i 108 109 C dX4_armFor_108 rfl  ?_
          refine k_iret 109 C dX4_armFor_109 rfl ?_
          first
            | exact ⟨(Pg.rf hf).trans g65, ee.symm⟩
            | exact ⟨(Pg.rf hf).trans g65, (ee.trans z1).symm⟩
        · have z1 : (if 20 < mfN f d b ∨ 20 < mfD f d b then (-2000000004 : Int32) else (100 * mfN f d b + mfD f d b).toInt32) = -2000000004 := if_pos (Or.inr (i64_not_le.mp h87))
          refine k_ldc 90 92 C dX4_armFor_90 rfl kc_X4_160 ?_
          refine k_goto 92 109 C dX4_armFor_92 (by decide) ?_
          refine k_iret 109 C dX4_armFor_109 rfl ?_
          first
            | exact ⟨(Pg.rf hf).trans g65, ee.symm⟩
            | exact ⟨(Pg.rf hf).trans g65, (ee.trans z1).symm⟩
    · have ee : mAF f n i j = -2000000001 := by unfold mAF; rw [if_neg (fun zz => h13 zz.2)]
      refine k_ldc 16 18 C dX4_armFor_16 rfl kc_X4_61 ?_
      refine k_iret 18 C dX4_armFor_18 rfl ?_
      exact ⟨Pg.rf hf, ee.symm⟩
set_option maxHeartbeats 4000000 in
set_option maxRecDepth 100000 in
theorem ct_X4_alike {E : gE} {T : gT} {l : Launch} {V : gV} {i j : Int32} {M n : Nat} {f : Nat → Int64} {np : Nat → Nat} (hM : IsMdl T M) (hf : PQ V M f) (hw : PWf f n np) : CtI E T l yX4_alike (gw yX4_alike cX4_alike 7 (some .int)) { frames := 2, cells := 0, slots := 0, locals := 43 } [.ref M, .int i, .int j] V (fun (r : Int32) (V' : gV) => V' = V ∧ r = mAl f n np i j) := by
  refine ctI_of (L := [(0, .ref M), (1, .int i), (2, .int j)]) (by decide) rfl (Nat.le_of_ble_eq_true rfl) rfl (fun p e s m args below meth c C => ?_)
  have z6 := hw.2.1
  have loop24 : ∀ (zf : Nat) (d b k : Nat) (u : Int32), np d - k = zf → (d < n) → (b < n) → (k ≤ np d ∧ k ≤ np b) → (mAlk f d b k = u) → (mAl f n np i j = mAlk f d b (min (np d) (np b))) → KW E T V p l e { frames := 2, cells := 0, slots := 0, locals := 43 } s m args below meth c 7 0 0 (MQ below (va_Qi (fun (r : Int32) (V' : gV) => V' = V ∧ r = mAl f n np i j) (RepS E T) (gA E)) args s 0 0 (gA E)) 24 [(4, .int (nI k)), (3, .int u), (0, .ref M), (1, .int (nI d)), (2, .int (nI b))] [] := by
    intro zf
    induction zf using Nat.strongRecOn with
    | _ zf ih =>
    intro d b k u zhf zdd zdb hk hu ei
    refine k_iload 24 26 C dX4_alike_24 rfl 0 rfl ?_
    refine k_aload_n 26 27 C dX4_alike_26 rfl 2 rfl ?_
    refine k_iload_n 27 28 C dX4_alike_27 rfl 3 rfl ?_
    refine k_callVI 28 31 C [_] [_] dX4_alike_28 rfl (ct_X4_points (d := d) (by omega) hM hf) mi_X4_points ml_X4_93 im_X4_points se_X4_points ci_X4 (IsMdl.o ‹_›) rfl rfl ⟨Nat.le_of_ble_eq_true rfl, Nat.le_of_ble_eq_true rfl⟩ (Nat.le_of_ble_eq_true rfl) (Nat.zero_le _) (Nat.zero_le _) (fun r28 V28 p28 => ?_)
    obtain ⟨rfl, rfl⟩ := And.intro p28.1.symm p28.2
    refine k_rwI (y := nI (np d)) (by rw [(hw.2.2 d (by omega)).1]; exact lN_i _) ?_
    have z20 := (hw.2.2 d zdd).2
    have z21 := (hw.2.2 b zdb).2
    refine k_icmp_ge 31 125 34 C dX4_alike_31 (by decide) rfl (fun h31 => ?_) (fun h31 => ?_)
    · have z9 : k = min (np d) (np b) := by
        have z0 : nI (np d) ≤ nI k := h31
        rw [n1k (by omega) (by omega)] at z0; omega
      refine k_iload_n 125 126 C dX4_alike_125 rfl 1 rfl ?_
      refine k_iret 126 C dX4_alike_126 rfl ?_
      exact ⟨rfl, by rw [ei, ← z9, hu]⟩
    · have z8 : k < np d := by
        have z0 : ¬ nI (np d) ≤ nI k := h31
        rw [n1k (by omega) (by omega)] at z0; omega
      refine k_iload 34 36 C dX4_alike_34 rfl 0 rfl ?_
      refine k_aload_n 36 37 C dX4_alike_36 rfl 2 rfl ?_
      refine k_iload_n 37 38 C dX4_alike_37 rfl 4 rfl ?_
      refine k_callVI 38 41 C [_] [_] dX4_alike_38 rfl (ct_X4_points (d := b) (by omega) hM hf) mi_X4_points ml_X4_93 im_X4_points se_X4_points ci_X4 (IsMdl.o ‹_›) rfl rfl ⟨Nat.le_of_ble_eq_true rfl, Nat.le_of_ble_eq_true rfl⟩ (Nat.le_of_ble_eq_true rfl) (Nat.zero_le _) (Nat.zero_le _) (fun r38 V38 p38 => ?_)
      obtain ⟨rfl, rfl⟩ := And.intro p38.1.symm p38.2
      refine k_rwI (y := nI (np b)) (by rw [(hw.2.2 b (by omega)).1]; exact lN_i _) ?_
      refine k_icmp_ge 41 125 44 C dX4_alike_41 (by decide) rfl (fun h41 => ?_) (fun h41 => ?_)
      · have z9 : k = min (np d) (np b) := by
          have z0 : nI (np b) ≤ nI k := h41
          rw [n1k (by omega) (by omega)] at z0; omega
        refine k_iload_n 125 126 C dX4_alike_125 rfl 1 rfl ?_
        refine k_iret 126 C dX4_alike_126 rfl ?_
        exact ⟨rfl, by rw [ei, ← z9, hu]⟩
      · have z7 : k < np b := by
          have z0 : ¬ nI (np b) ≤ nI k := h41
          rw [n1k (by omega) (by omega)] at z0; omega
        have zm : np d - (k + 1) < zf := by omega
        have zk : k + 1 ≤ np d ∧ k + 1 ≤ np b := by omega
        refine k_iconst 44 45 C dX4_alike_44 rfl (v := 1) rfl ?_
        refine k_istore 45 47 C [(5, _), (4, _), (3, _), (0, _), (1, _), (2, _)] dX4_alike_45 rfl (by decide) rfl ?_
        refine k_iconst 47 48 C dX4_alike_47 rfl (v := 0) rfl ?_
        refine k_istore 48 50 C [(6, _), (5, _), (4, _), (3, _), (0, _), (1, _), (2, _)] dX4_alike_48 rfl (by decide) rfl ?_
        refine k_iload 50 52 C dX4_alike_50 rfl 0 rfl ?_
        refine k_iconst 52 53 C dX4_alike_52 rfl (v := 4) rfl ?_
        refine k_icmp_ge 53 106 56 C dX4_alike_53 (by decide) rfl (fun h53 => ?_) (fun h53 => ?_)
        · exact absurd h53 (by decide)
        · refine k_iload 56 58 C dX4_alike_56 rfl 1 rfl ?_
          refine k_if_eq 58 97 61 C dX4_alike_58 (by decide) rfl (fun h58 => ?_) (fun h58 => ?_)
          · exact absurd h58 (by decide)
          · refine k_aload_n 61 62 C dX4_alike_61 rfl 4 rfl ?_
            refine k_getF 62 65 C dX4_alike_62 rfl ci_X4 0 fl_X4_7 (IsMdl.o ‹_›) (by decide) (IsMdl.f0 ‹_›) rfl ?_
            refine k_iload_n 65 66 C dX4_alike_65 rfl 5 rfl ?_
            refine k_iload 66 68 C dX4_alike_66 rfl 2 rfl ?_
            refine k_callSI 68 71 C [_, _] [_] dX4_alike_68 rfl (ct_X4_cellOf (d := d) (k := k)) mi_X4_cellOf ml_X4_104 st_X4_cellOf rfl rfl ⟨Nat.le_of_ble_eq_true rfl, Nat.le_of_ble_eq_true rfl⟩ (Nat.le_of_ble_eq_true rfl) (Nat.zero_le _) (Nat.zero_le _) (fun r68 V68 p68 => ?_)
            obtain ⟨rfl, rfl⟩ := And.intro p68.1.symm p68.2
            refine k_iload 71 73 C dX4_alike_71 rfl 0 rfl ?_
            refine k_iadd 73 74 C dX4_alike_73 rfl  ?_
            refine k_rwI (y := nI ((ceC (d) (k)) + (0))) (nI_add (ceC (d) (k)) (0)) ?_
            refine k_laldP 74 75 C dX4_alike_74 rfl ‹_› (f := f) (hf) (c0 := (ceC (d) (k)) + (0)) (by first | omega | (simp only [hdC, ceC]; omega)) ?_
            refine k_aload_n 75 76 C dX4_alike_75 rfl 4 rfl ?_
            refine k_getF 76 79 C dX4_alike_76 rfl ci_X4 0 fl_X4_7 (IsMdl.o ‹_›) (by decide) (IsMdl.f0 ‹_›) rfl ?_
            refine k_iload_n 79 80 C dX4_alike_79 rfl 6 rfl ?_
            refine k_iload 80 82 C dX4_alike_80 rfl 2 rfl ?_
            refine k_callSI 82 85 C [_, _] [_, _] dX4_alike_82 rfl (ct_X4_cellOf (d := b) (k := k)) mi_X4_cellOf ml_X4_104 st_X4_cellOf rfl rfl ⟨Nat.le_of_ble_eq_true rfl, Nat.le_of_ble_eq_true rfl⟩ (Nat.le_of_ble_eq_true rfl) (Nat.zero_le _) (Nat.zero_le _) (fun r82 V82 p82 => ?_)
            obtain ⟨rfl, rfl⟩ := And.intro p82.1.symm p82.2
            refine k_iload 85 87 C dX4_alike_85 rfl 0 rfl ?_
            refine k_iadd 87 88 C dX4_alike_87 rfl  ?_
            refine k_rwI (y := nI ((ceC (b) (k)) + (0))) (nI_add (ceC (b) (k)) (0)) ?_
            refine k_laldP 88 89 C dX4_alike_88 rfl ‹_› (f := f) (hf) (c0 := (ceC (b) (k)) + (0)) (by first | omega | (simp only [hdC, ceC]; omega)) ?_
            refine k_lcmp_ne 89 90 97 93 C dX4_alike_89 rfl dX4_alike_90 (by decide) rfl (fun h90 => ?_) (fun h90 => ?_)
            · have zx : ¬ sm4 f d b k := fun zz => h90 zz.1
              have zi : (if sm4 f d b k then (1 : Int32) else 0) = 0 := if_neg zx
              refine k_iconst 97 98 C dX4_alike_97 rfl (v := 0) rfl ?_
              refine k_istore 98 100 C [(5, _), (6, _), (4, _), (3, _), (0, _), (1, _), (2, _)] dX4_alike_98 rfl (by decide) rfl ?_
              refine k_iinc 100 103 C [(6, _), (5, _), (4, _), (3, _), (0, _), (1, _), (2, _)] (nI (1)) dX4_alike_100 rfl 1 rfl (nI_1 (0)) (by decide) rfl ?_
              refine k_goto 103 50 C dX4_alike_103 (by decide) ?_
              refine k_iload 50 52 C dX4_alike_50 rfl 0 rfl ?_
              refine k_iconst 52 53 C dX4_alike_52 rfl (v := 4) rfl ?_
              refine k_icmp_ge 53 106 56 C dX4_alike_53 (by decide) rfl (fun h53 => ?_) (fun h53 => ?_)
              · exact absurd h53 (by decide)
              · refine k_iload 56 58 C dX4_alike_56 rfl 1 rfl ?_
                refine k_if_eq 58 97 61 C dX4_alike_58 (by decide) rfl (fun h58 => ?_) (fun h58 => ?_)
                · refine k_iconst 97 98 C dX4_alike_97 rfl (v := 0) rfl ?_
                  refine k_istore 98 100 C [(5, _), (6, _), (4, _), (3, _), (0, _), (1, _), (2, _)] dX4_alike_98 rfl (by decide) rfl ?_
                  refine k_iinc 100 103 C [(6, _), (5, _), (4, _), (3, _), (0, _), (1, _), (2, _)] (nI (2)) dX4_alike_100 rfl 1 rfl (nI_1 (1)) (by decide) rfl ?_
                  refine k_goto 103 50 C dX4_alike_103 (by decide) ?_
                  refine k_iload 50 52 C dX4_alike_50 rfl 0 rfl ?_
                  refine k_iconst 52 53 C dX4_alike_52 rfl (v := 4) rfl ?_
                  refine k_icmp_ge 53 106 56 C dX4_alike_53 (by decide) rfl (fun h53 => ?_) (fun h53 => ?_)
                  · exact absurd h53 (by decide)
                  · refine k_iload 56 58 C dX4_alike_56 rfl 1 rfl ?_
                    refine k_if_eq 58 97 61 C dX4_alike_58 (by decide) rfl (fun h58 => ?_) (fun h58 => ?_)
                    · refine k_iconst 97 98 C dX4_alike_97 rfl (v := 0) rfl ?_
                      refine k_istore 98 100 C [(5, _), (6, _), (4, _), (3, _), (0, _), (1, _), (2, _)] dX4_alike_98 rfl (by decide) rfl ?_
                      refine k_iinc 100 103 C [(6, _), (5, _), (4, _), (3, _), (0, _), (1, _), (2, _)] (nI (3)) dX4_alike_100 rfl 1 rfl (nI_1 (2)) (by decide) rfl ?_
                      refine k_goto 103 50 C dX4_alike_103 (by decide) ?_
                      refine k_iload 50 52 C dX4_alike_50 rfl 0 rfl ?_
                      refine k_iconst 52 53 C dX4_alike_52 rfl (v := 4) rfl ?_
                      refine k_icmp_ge 53 106 56 C dX4_alike_53 (by decide) rfl (fun h53 => ?_) (fun h53 => ?_)
                      · exact absurd h53 (by decide)
                      · refine k_iload 56 58 C dX4_alike_56 rfl 1 rfl ?_
                        refine k_if_eq 58 97 61 C dX4_alike_58 (by decide) rfl (fun h58 => ?_) (fun h58 => ?_)
                        · refine k_iconst 97 98 C dX4_alike_97 rfl (v := 0) rfl ?_
                          refine k_istore 98 100 C [(5, _), (6, _), (4, _), (3, _), (0, _), (1, _), (2, _)] dX4_alike_98 rfl (by decide) rfl ?_
                          refine k_iinc 100 103 C [(6, _), (5, _), (4, _), (3, _), (0, _), (1, _), (2, _)] (nI (4)) dX4_alike_100 rfl 1 rfl (nI_1 (3)) (by decide) rfl ?_
                          refine k_goto 103 50 C dX4_alike_103 (by decide) ?_
                          refine k_iload 50 52 C dX4_alike_50 rfl 0 rfl ?_
                          refine k_iconst 52 53 C dX4_alike_52 rfl (v := 4) rfl ?_
                          refine k_icmp_ge 53 106 56 C dX4_alike_53 (by decide) rfl (fun h53 => ?_) (fun h53 => ?_)
                          · refine k_iload_n 106 107 C dX4_alike_106 rfl 3 rfl ?_
                            refine k_iload 107 109 C dX4_alike_107 rfl 1 rfl ?_
                            refine k_if_eq 109 116 112 C dX4_alike_109 (by decide) rfl (fun h109 => ?_) (fun h109 => ?_)
                            · refine k_iconst 116 117 C dX4_alike_116 rfl (v := 0) rfl ?_
                              refine k_iadd 117 118 C dX4_alike_117 rfl  ?_
                              refine k_istore_n 118 119 C [(3, _), (6, _), (5, _), (4, _), (0, _), (1, _), (2, _)] dX4_alike_118 rfl (by decide) rfl ?_
                              refine k_iinc 119 122 C [(4, _), (3, _), (6, _), (5, _), (0, _), (1, _), (2, _)] (nI (k + 1)) dX4_alike_119 rfl 3 rfl (nI_1 (k)) (by decide) rfl ?_
                              refine k_goto 122 24 C dX4_alike_122 (by decide) ?_
                              refine k_perm [0, 1, 4, 5, 6] (L' := [(4, _), (3, _), (0, _), (1, _), (2, _)]) rfl ?_
                              exact ih (np d - (k + 1)) zm d b (k + 1) _ rfl zdd zdb zk (by rw [← hu, ← zi]; rfl) ei
                            · exact absurd h109 (by decide)
                          · exact absurd h53 (by decide)
                        · exact absurd h58 (by decide)
                    · exact absurd h58 (by decide)
                · exact absurd h58 (by decide)
            · have za0 := h90
              refine k_iconst 93 94 C dX4_alike_93 rfl (v := 1) rfl ?_
              refine k_goto 94 98 C dX4_alike_94 (by decide) ?_
              refine k_istore 98 100 C [(5, _), (6, _), (4, _), (3, _), (0, _), (1, _), (2, _)] dX4_alike_98 rfl (by decide) rfl ?_
              refine k_iinc 100 103 C [(6, _), (5, _), (4, _), (3, _), (0, _), (1, _), (2, _)] (nI (1)) dX4_alike_100 rfl 1 rfl (nI_1 (0)) (by decide) rfl ?_
              refine k_goto 103 50 C dX4_alike_103 (by decide) ?_
              refine k_iload 50 52 C dX4_alike_50 rfl 0 rfl ?_
              refine k_iconst 52 53 C dX4_alike_52 rfl (v := 4) rfl ?_
              refine k_icmp_ge 53 106 56 C dX4_alike_53 (by decide) rfl (fun h53 => ?_) (fun h53 => ?_)
              · exact absurd h53 (by decide)
              · refine k_iload 56 58 C dX4_alike_56 rfl 1 rfl ?_
                refine k_if_eq 58 97 61 C dX4_alike_58 (by decide) rfl (fun h58 => ?_) (fun h58 => ?_)
                · exact absurd h58 (by decide)
                · refine k_aload_n 61 62 C dX4_alike_61 rfl 4 rfl ?_
                  refine k_getF 62 65 C dX4_alike_62 rfl ci_X4 0 fl_X4_7 (IsMdl.o ‹_›) (by decide) (IsMdl.f0 ‹_›) rfl ?_
                  refine k_iload_n 65 66 C dX4_alike_65 rfl 5 rfl ?_
                  refine k_iload 66 68 C dX4_alike_66 rfl 2 rfl ?_
                  refine k_callSI 68 71 C [_, _] [_] dX4_alike_68 rfl (ct_X4_cellOf (d := d) (k := k)) mi_X4_cellOf ml_X4_104 st_X4_cellOf rfl rfl ⟨Nat.le_of_ble_eq_true rfl, Nat.le_of_ble_eq_true rfl⟩ (Nat.le_of_ble_eq_true rfl) (Nat.zero_le _) (Nat.zero_le _) (fun r68 V68 p68 => ?_)
                  obtain ⟨rfl, rfl⟩ := And.intro p68.1.symm p68.2
                  refine k_iload 71 73 C dX4_alike_71 rfl 0 rfl ?_
                  refine k_iadd 73 74 C dX4_alike_73 rfl  ?_
                  refine k_rwI (y := nI ((ceC (d) (k)) + (1))) (nI_add (ceC (d) (k)) (1)) ?_
                  refine k_laldP 74 75 C dX4_alike_74 rfl ‹_› (f := f) (hf) (c0 := (ceC (d) (k)) + (1)) (by first | omega | (simp only [hdC, ceC]; omega)) ?_
                  refine k_aload_n 75 76 C dX4_alike_75 rfl 4 rfl ?_
                  refine k_getF 76 79 C dX4_alike_76 rfl ci_X4 0 fl_X4_7 (IsMdl.o ‹_›) (by decide) (IsMdl.f0 ‹_›) rfl ?_
                  refine k_iload_n 79 80 C dX4_alike_79 rfl 6 rfl ?_
                  refine k_iload 80 82 C dX4_alike_80 rfl 2 rfl ?_
                  refine k_callSI 82 85 C [_, _] [_, _] dX4_alike_82 rfl (ct_X4_cellOf (d := b) (k := k)) mi_X4_cellOf ml_X4_104 st_X4_cellOf rfl rfl ⟨Nat.le_of_ble_eq_true rfl, Nat.le_of_ble_eq_true rfl⟩ (Nat.le_of_ble_eq_true rfl) (Nat.zero_le _) (Nat.zero_le _) (fun r82 V82 p82 => ?_)
                  obtain ⟨rfl, rfl⟩ := And.intro p82.1.symm p82.2
                  refine k_iload 85 87 C dX4_alike_85 rfl 0 rfl ?_
                  refine k_iadd 87 88 C dX4_alike_87 rfl  ?_
                  refine k_rwI (y := nI ((ceC (b) (k)) + (1))) (nI_add (ceC (b) (k)) (1)) ?_
                  refine k_laldP 88 89 C dX4_alike_88 rfl ‹_› (f := f) (hf) (c0 := (ceC (b) (k)) + (1)) (by first | omega | (simp only [hdC, ceC]; omega)) ?_
                  refine k_lcmp_ne 89 90 97 93 C dX4_alike_89 rfl dX4_alike_90 (by decide) rfl (fun h90 => ?_) (fun h90 => ?_)
                  · have zx : ¬ sm4 f d b k := fun zz => h90 zz.2.1
                    have zi : (if sm4 f d b k then (1 : Int32) else 0) = 0 := if_neg zx
                    refine k_iconst 97 98 C dX4_alike_97 rfl (v := 0) rfl ?_
                    refine k_istore 98 100 C [(5, _), (6, _), (4, _), (3, _), (0, _), (1, _), (2, _)] dX4_alike_98 rfl (by decide) rfl ?_
                    refine k_iinc 100 103 C [(6, _), (5, _), (4, _), (3, _), (0, _), (1, _), (2, _)] (nI (2)) dX4_alike_100 rfl 1 rfl (nI_1 (1)) (by decide) rfl ?_
                    refine k_goto 103 50 C dX4_alike_103 (by decide) ?_
                    refine k_iload 50 52 C dX4_alike_50 rfl 0 rfl ?_
                    refine k_iconst 52 53 C dX4_alike_52 rfl (v := 4) rfl ?_
                    refine k_icmp_ge 53 106 56 C dX4_alike_53 (by decide) rfl (fun h53 => ?_) (fun h53 => ?_)
                    · exact absurd h53 (by decide)
                    · refine k_iload 56 58 C dX4_alike_56 rfl 1 rfl ?_
                      refine k_if_eq 58 97 61 C dX4_alike_58 (by decide) rfl (fun h58 => ?_) (fun h58 => ?_)
                      · refine k_iconst 97 98 C dX4_alike_97 rfl (v := 0) rfl ?_
                        refine k_istore 98 100 C [(5, _), (6, _), (4, _), (3, _), (0, _), (1, _), (2, _)] dX4_alike_98 rfl (by decide) rfl ?_
                        refine k_iinc 100 103 C [(6, _), (5, _), (4, _), (3, _), (0, _), (1, _), (2, _)] (nI (3)) dX4_alike_100 rfl 1 rfl (nI_1 (2)) (by decide) rfl ?_
                        refine k_goto 103 50 C dX4_alike_103 (by decide) ?_
                        refine k_iload 50 52 C dX4_alike_50 rfl 0 rfl ?_
                        refine k_iconst 52 53 C dX4_alike_52 rfl (v := 4) rfl ?_
                        refine k_icmp_ge 53 106 56 C dX4_alike_53 (by decide) rfl (fun h53 => ?_) (fun h53 => ?_)
                        · exact absurd h53 (by decide)
                        · refine k_iload 56 58 C dX4_alike_56 rfl 1 rfl ?_
                          refine k_if_eq 58 97 61 C dX4_alike_58 (by decide) rfl (fun h58 => ?_) (fun h58 => ?_)
                          · refine k_iconst 97 98 C dX4_alike_97 rfl (v := 0) rfl ?_
                            refine k_istore 98 100 C [(5, _), (6, _), (4, _), (3, _), (0, _), (1, _), (2, _)] dX4_alike_98 rfl (by decide) rfl ?_
                            refine k_iinc 100 103 C [(6, _), (5, _), (4, _), (3, _), (0, _), (1, _), (2, _)] (nI (4)) dX4_alike_100 rfl 1 rfl (nI_1 (3)) (by decide) rfl ?_
                            refine k_goto 103 50 C dX4_alike_103 (by decide) ?_
                            refine k_iload 50 52 C dX4_alike_50 rfl 0 rfl ?_
                            refine k_iconst 52 53 C dX4_alike_52 rfl (v := 4) rfl ?_
                            refine k_icmp_ge 53 106 56 C dX4_alike_53 (by decide) rfl (fun h53 => ?_) (fun h53 => ?_)
                            · refine k_iload_n 106 107 C dX4_alike_106 rfl 3 rfl ?_
                              refine k_iload 107 109 C dX4_alike_107 rfl 1 rfl ?_
                              refine k_if_eq 109 116 112 C dX4_alike_109 (by decide) rfl (fun h109 => ?_) (fun h109 => ?_)
                              · refine k_iconst 116 117 C dX4_alike_116 rfl (v := 0) rfl ?_
                                refine k_iadd 117 118 C dX4_alike_117 rfl  ?_
                                refine k_istore_n 118 119 C [(3, _), (6, _), (5, _), (4, _), (0, _), (1, _), (2, _)] dX4_alike_118 rfl (by decide) rfl ?_
                                refine k_iinc 119 122 C [(4, _), (3, _), (6, _), (5, _), (0, _), (1, _), (2, _)] (nI (k + 1)) dX4_alike_119 rfl 3 rfl (nI_1 (k)) (by decide) rfl ?_
                                refine k_goto 122 24 C dX4_alike_122 (by decide) ?_
                                refine k_perm [0, 1, 4, 5, 6] (L' := [(4, _), (3, _), (0, _), (1, _), (2, _)]) rfl ?_
                                exact ih (np d - (k + 1)) zm d b (k + 1) _ rfl zdd zdb zk (by rw [← hu, ← zi]; rfl) ei
                              · exact absurd h109 (by decide)
                            · exact absurd h53 (by decide)
                          · exact absurd h58 (by decide)
                      · exact absurd h58 (by decide)
                  · have za1 := h90
                    refine k_iconst 93 94 C dX4_alike_93 rfl (v := 1) rfl ?_
                    refine k_goto 94 98 C dX4_alike_94 (by decide) ?_
                    refine k_istore 98 100 C [(5, _), (6, _), (4, _), (3, _), (0, _), (1, _), (2, _)] dX4_alike_98 rfl (by decide) rfl ?_
                    refine k_iinc 100 103 C [(6, _), (5, _), (4, _), (3, _), (0, _), (1, _), (2, _)] (nI (2)) dX4_alike_100 rfl 1 rfl (nI_1 (1)) (by decide) rfl ?_
                    refine k_goto 103 50 C dX4_alike_103 (by decide) ?_
                    refine k_iload 50 52 C dX4_alike_50 rfl 0 rfl ?_
                    refine k_iconst 52 53 C dX4_alike_52 rfl (v := 4) rfl ?_
                    refine k_icmp_ge 53 106 56 C dX4_alike_53 (by decide) rfl (fun h53 => ?_) (fun h53 => ?_)
                    · exact absurd h53 (by decide)
                    · refine k_iload 56 58 C dX4_alike_56 rfl 1 rfl ?_
                      refine k_if_eq 58 97 61 C dX4_alike_58 (by decide) rfl (fun h58 => ?_) (fun h58 => ?_)
                      · exact absurd h58 (by decide)
                      · refine k_aload_n 61 62 C dX4_alike_61 rfl 4 rfl ?_
                        refine k_getF 62 65 C dX4_alike_62 rfl ci_X4 0 fl_X4_7 (IsMdl.o ‹_›) (by decide) (IsMdl.f0 ‹_›) rfl ?_
                        refine k_iload_n 65 66 C dX4_alike_65 rfl 5 rfl ?_
                        refine k_iload 66 68 C dX4_alike_66 rfl 2 rfl ?_
                        refine k_callSI 68 71 C [_, _] [_] dX4_alike_68 rfl (ct_X4_cellOf (d := d) (k := k)) mi_X4_cellOf ml_X4_104 st_X4_cellOf rfl rfl ⟨Nat.le_of_ble_eq_true rfl, Nat.le_of_ble_eq_true rfl⟩ (Nat.le_of_ble_eq_true rfl) (Nat.zero_le _) (Nat.zero_le _) (fun r68 V68 p68 => ?_)
                        obtain ⟨rfl, rfl⟩ := And.intro p68.1.symm p68.2
                        refine k_iload 71 73 C dX4_alike_71 rfl 0 rfl ?_
                        refine k_iadd 73 74 C dX4_alike_73 rfl  ?_
                        refine k_rwI (y := nI ((ceC (d) (k)) + (2))) (nI_add (ceC (d) (k)) (2)) ?_
                        refine k_laldP 74 75 C dX4_alike_74 rfl ‹_› (f := f) (hf) (c0 := (ceC (d) (k)) + (2)) (by first | omega | (simp only [hdC, ceC]; omega)) ?_
                        refine k_aload_n 75 76 C dX4_alike_75 rfl 4 rfl ?_
                        refine k_getF 76 79 C dX4_alike_76 rfl ci_X4 0 fl_X4_7 (IsMdl.o ‹_›) (by decide) (IsMdl.f0 ‹_›) rfl ?_
                        refine k_iload_n 79 80 C dX4_alike_79 rfl 6 rfl ?_
                        refine k_iload 80 82 C dX4_alike_80 rfl 2 rfl ?_
                        refine k_callSI 82 85 C [_, _] [_, _] dX4_alike_82 rfl (ct_X4_cellOf (d := b) (k := k)) mi_X4_cellOf ml_X4_104 st_X4_cellOf rfl rfl ⟨Nat.le_of_ble_eq_true rfl, Nat.le_of_ble_eq_true rfl⟩ (Nat.le_of_ble_eq_true rfl) (Nat.zero_le _) (Nat.zero_le _) (fun r82 V82 p82 => ?_)
                        obtain ⟨rfl, rfl⟩ := And.intro p82.1.symm p82.2
                        refine k_iload 85 87 C dX4_alike_85 rfl 0 rfl ?_
                        refine k_iadd 87 88 C dX4_alike_87 rfl  ?_
                        refine k_rwI (y := nI ((ceC (b) (k)) + (2))) (nI_add (ceC (b) (k)) (2)) ?_
                        refine k_laldP 88 89 C dX4_alike_88 rfl ‹_› (f := f) (hf) (c0 := (ceC (b) (k)) + (2)) (by first | omega | (simp only [hdC, ceC]; omega)) ?_
                        refine k_lcmp_ne 89 90 97 93 C dX4_alike_89 rfl dX4_alike_90 (by decide) rfl (fun h90 => ?_) (fun h90 => ?_)
                        · have zx : ¬ sm4 f d b k := fun zz => h90 zz.2.2.1
                          have zi : (if sm4 f d b k then (1 : Int32) else 0) = 0 := if_neg zx
                          refine k_iconst 97 98 C dX4_alike_97 rfl (v := 0) rfl ?_
                          refine k_istore 98 100 C [(5, _), (6, _), (4, _), (3, _), (0, _), (1, _), (2, _)] dX4_alike_98 rfl (by decide) rfl ?_
                          refine k_iinc 100 103 C [(6, _), (5, _), (4, _), (3, _), (0, _), (1, _), (2, _)] (nI (3)) dX4_alike_100 rfl 1 rfl (nI_1 (2)) (by decide) rfl ?_
                          refine k_goto 103 50 C dX4_alike_103 (by decide) ?_
                          refine k_iload 50 52 C dX4_alike_50 rfl 0 rfl ?_
                          refine k_iconst 52 53 C dX4_alike_52 rfl (v := 4) rfl ?_
                          refine k_icmp_ge 53 106 56 C dX4_alike_53 (by decide) rfl (fun h53 => ?_) (fun h53 => ?_)
                          · exact absurd h53 (by decide)
                          · refine k_iload 56 58 C dX4_alike_56 rfl 1 rfl ?_
                            refine k_if_eq 58 97 61 C dX4_alike_58 (by decide) rfl (fun h58 => ?_) (fun h58 => ?_)
                            · refine k_iconst 97 98 C dX4_alike_97 rfl (v := 0) rfl ?_
                              refine k_istore 98 100 C [(5, _), (6, _), (4, _), (3, _), (0, _), (1, _), (2, _)] dX4_alike_98 rfl (by decide) rfl ?_
                              refine k_iinc 100 103 C [(6, _), (5, _), (4, _), (3, _), (0, _), (1, _), (2, _)] (nI (4)) dX4_alike_100 rfl 1 rfl (nI_1 (3)) (by decide) rfl ?_
                              refine k_goto 103 50 C dX4_alike_103 (by decide) ?_
                              refine k_iload 50 52 C dX4_alike_50 rfl 0 rfl ?_
                              refine k_iconst 52 53 C dX4_alike_52 rfl (v := 4) rfl ?_
                              refine k_icmp_ge 53 106 56 C dX4_alike_53 (by decide) rfl (fun h53 => ?_) (fun h53 => ?_)
                              · refine k_iload_n 106 107 C dX4_alike_106 rfl 3 rfl ?_
                                refine k_iload 107 109 C dX4_alike_107 rfl 1 rfl ?_
                                refine k_if_eq 109 116 112 C dX4_alike_109 (by decide) rfl (fun h109 => ?_) (fun h109 => ?_)
                                · refine k_iconst 116 117 C dX4_alike_116 rfl (v := 0) rfl ?_
                                  refine k_iadd 117 118 C dX4_alike_117 rfl  ?_
                                  refine k_istore_n 118 119 C [(3, _), (6, _), (5, _), (4, _), (0, _), (1, _), (2, _)] dX4_alike_118 rfl (by decide) rfl ?_
                                  refine k_iinc 119 122 C [(4, _), (3, _), (6, _), (5, _), (0, _), (1, _), (2, _)] (nI (k + 1)) dX4_alike_119 rfl 3 rfl (nI_1 (k)) (by decide) rfl ?_
                                  refine k_goto 122 24 C dX4_alike_122 (by decide) ?_
                                  refine k_perm [0, 1, 4, 5, 6] (L' := [(4, _), (3, _), (0, _), (1, _), (2, _)]) rfl ?_
                                  exact ih (np d - (k + 1)) zm d b (k + 1) _ rfl zdd zdb zk (by rw [← hu, ← zi]; rfl) ei
                                · exact absurd h109 (by decide)
                              · exact absurd h53 (by decide)
                            · exact absurd h58 (by decide)
                        · have za2 := h90
                          refine k_iconst 93 94 C dX4_alike_93 rfl (v := 1) rfl ?_
                          refine k_goto 94 98 C dX4_alike_94 (by decide) ?_
                          refine k_istore 98 100 C [(5, _), (6, _), (4, _), (3, _), (0, _), (1, _), (2, _)] dX4_alike_98 rfl (by decide) rfl ?_
                          refine k_iinc 100 103 C [(6, _), (5, _), (4, _), (3, _), (0, _), (1, _), (2, _)] (nI (3)) dX4_alike_100 rfl 1 rfl (nI_1 (2)) (by decide) rfl ?_
                          refine k_goto 103 50 C dX4_alike_103 (by decide) ?_
                          refine k_iload 50 52 C dX4_alike_50 rfl 0 rfl ?_
                          refine k_iconst 52 53 C dX4_alike_52 rfl (v := 4) rfl ?_
                          refine k_icmp_ge 53 106 56 C dX4_alike_53 (by decide) rfl (fun h53 => ?_) (fun h53 => ?_)
                          · exact absurd h53 (by decide)
                          · refine k_iload 56 58 C dX4_alike_56 rfl 1 rfl ?_
                            refine k_if_eq 58 97 61 C dX4_alike_58 (by decide) rfl (fun h58 => ?_) (fun h58 => ?_)
                            · exact absurd h58 (by decide)
                            · refine k_aload_n 61 62 C dX4_alike_61 rfl 4 rfl ?_
                              refine k_getF 62 65 C dX4_alike_62 rfl ci_X4 0 fl_X4_7 (IsMdl.o ‹_›) (by decide) (IsMdl.f0 ‹_›) rfl ?_
                              refine k_iload_n 65 66 C dX4_alike_65 rfl 5 rfl ?_
                              refine k_iload 66 68 C dX4_alike_66 rfl 2 rfl ?_
                              refine k_callSI 68 71 C [_, _] [_] dX4_alike_68 rfl (ct_X4_cellOf (d := d) (k := k)) mi_X4_cellOf ml_X4_104 st_X4_cellOf rfl rfl ⟨Nat.le_of_ble_eq_true rfl, Nat.le_of_ble_eq_true rfl⟩ (Nat.le_of_ble_eq_true rfl) (Nat.zero_le _) (Nat.zero_le _) (fun r68 V68 p68 => ?_)
                              obtain ⟨rfl, rfl⟩ := And.intro p68.1.symm p68.2
                              refine k_iload 71 73 C dX4_alike_71 rfl 0 rfl ?_
                              refine k_iadd 73 74 C dX4_alike_73 rfl  ?_
                              refine k_rwI (y := nI ((ceC (d) (k)) + (3))) (nI_add (ceC (d) (k)) (3)) ?_
                              refine k_laldP 74 75 C dX4_alike_74 rfl ‹_› (f := f) (hf) (c0 := (ceC (d) (k)) + (3)) (by first | omega | (simp only [hdC, ceC]; omega)) ?_
                              refine k_aload_n 75 76 C dX4_alike_75 rfl 4 rfl ?_
                              refine k_getF 76 79 C dX4_alike_76 rfl ci_X4 0 fl_X4_7 (IsMdl.o ‹_›) (by decide) (IsMdl.f0 ‹_›) rfl ?_
                              refine k_iload_n 79 80 C dX4_alike_79 rfl 6 rfl ?_
                              refine k_iload 80 82 C dX4_alike_80 rfl 2 rfl ?_
                              refine k_callSI 82 85 C [_, _] [_, _] dX4_alike_82 rfl (ct_X4_cellOf (d := b) (k := k)) mi_X4_cellOf ml_X4_104 st_X4_cellOf rfl rfl ⟨Nat.le_of_ble_eq_true rfl, Nat.le_of_ble_eq_true rfl⟩ (Nat.le_of_ble_eq_true rfl) (Nat.zero_le _) (Nat.zero_le _) (fun r82 V82 p82 => ?_)
                              obtain ⟨rfl, rfl⟩ := And.intro p82.1.symm p82.2
                              refine k_iload 85 87 C dX4_alike_85 rfl 0 rfl ?_
                              refine k_iadd 87 88 C dX4_alike_87 rfl  ?_
                              refine k_rwI (y := nI ((ceC (b) (k)) + (3))) (nI_add (ceC (b) (k)) (3)) ?_
                              refine k_laldP 88 89 C dX4_alike_88 rfl ‹_› (f := f) (hf) (c0 := (ceC (b) (k)) + (3)) (by first | omega | (simp only [hdC, ceC]; omega)) ?_
                              refine k_lcmp_ne 89 90 97 93 C dX4_alike_89 rfl dX4_alike_90 (by decide) rfl (fun h90 => ?_) (fun h90 => ?_)
                              · have zx : ¬ sm4 f d b k := fun zz => h90 zz.2.2.2
                                have zi : (if sm4 f d b k then (1 : Int32) else 0) = 0 := if_neg zx
                                refine k_iconst 97 98 C dX4_alike_97 rfl (v := 0) rfl ?_
                                refine k_istore 98 100 C [(5, _), (6, _), (4, _), (3, _), (0, _), (1, _), (2, _)] dX4_alike_98 rfl (by decide) rfl ?_
                                refine k_iinc 100 103 C [(6, _), (5, _), (4, _), (3, _), (0, _), (1, _), (2, _)] (nI (4)) dX4_alike_100 rfl 1 rfl (nI_1 (3)) (by decide) rfl ?_
                                refine k_goto 103 50 C dX4_alike_103 (by decide) ?_
                                refine k_iload 50 52 C dX4_alike_50 rfl 0 rfl ?_
                                refine k_iconst 52 53 C dX4_alike_52 rfl (v := 4) rfl ?_
                                refine k_icmp_ge 53 106 56 C dX4_alike_53 (by decide) rfl (fun h53 => ?_) (fun h53 => ?_)
                                · refine k_iload_n 106 107 C dX4_alike_106 rfl 3 rfl ?_
                                  refine k_iload 107 109 C dX4_alike_107 rfl 1 rfl ?_
                                  refine k_if_eq 109 116 112 C dX4_alike_109 (by decide) rfl (fun h109 => ?_) (fun h109 => ?_)
                                  · refine k_iconst 116 117 C dX4_alike_116 rfl (v := 0) rfl ?_
                                    refine k_iadd 117 118 C dX4_alike_117 rfl  ?_
                                    refine k_istore_n 118 119 C [(3, _), (6, _), (5, _), (4, _), (0, _), (1, _), (2, _)] dX4_alike_118 rfl (by decide) rfl ?_
                                    refine k_iinc 119 122 C [(4, _), (3, _), (6, _), (5, _), (0, _), (1, _), (2, _)] (nI (k + 1)) dX4_alike_119 rfl 3 rfl (nI_1 (k)) (by decide) rfl ?_
                                    refine k_goto 122 24 C dX4_alike_122 (by decide) ?_
                                    refine k_perm [0, 1, 4, 5, 6] (L' := [(4, _), (3, _), (0, _), (1, _), (2, _)]) rfl ?_
                                    exact ih (np d - (k + 1)) zm d b (k + 1) _ rfl zdd zdb zk (by rw [← hu, ← zi]; rfl) ei
                                  · exact absurd h109 (by decide)
                                · exact absurd h53 (by decide)
                              · have za3 := h90
                                have zi : (if sm4 f d b k then (1 : Int32) else 0) = 1 := if_pos ⟨za0, za1, za2, za3⟩
                                refine k_iconst 93 94 C dX4_alike_93 rfl (v := 1) rfl ?_
                                refine k_goto 94 98 C dX4_alike_94 (by decide) ?_
                                refine k_istore 98 100 C [(5, _), (6, _), (4, _), (3, _), (0, _), (1, _), (2, _)] dX4_alike_98 rfl (by decide) rfl ?_
                                refine k_iinc 100 103 C [(6, _), (5, _), (4, _), (3, _), (0, _), (1, _), (2, _)] (nI (4)) dX4_alike_100 rfl 1 rfl (nI_1 (3)) (by decide) rfl ?_
                                refine k_goto 103 50 C dX4_alike_103 (by decide) ?_
                                refine k_iload 50 52 C dX4_alike_50 rfl 0 rfl ?_
                                refine k_iconst 52 53 C dX4_alike_52 rfl (v := 4) rfl ?_
                                refine k_icmp_ge 53 106 56 C dX4_alike_53 (by decide) rfl (fun h53 => ?_) (fun h53 => ?_)
                                · refine k_iload_n 106 107 C dX4_alike_106 rfl 3 rfl ?_
                                  refine k_iload 107 109 C dX4_alike_107 rfl 1 rfl ?_
                                  refine k_if_eq 109 116 112 C dX4_alike_109 (by decide) rfl (fun h109 => ?_) (fun h109 => ?_)
                                  · exact absurd h109 (by decide)
                                  · refine k_iconst 112 113 C dX4_alike_112 rfl (v := 1) rfl ?_
                                    refine k_goto 113 117 C dX4_alike_113 (by decide) ?_
                                    refine k_iadd 117 118 C dX4_alike_117 rfl  ?_
                                    refine k_istore_n 118 119 C [(3, _), (6, _), (5, _), (4, _), (0, _), (1, _), (2, _)] dX4_alike_118 rfl (by decide) rfl ?_
                                    refine k_iinc 119 122 C [(4, _), (3, _), (6, _), (5, _), (0, _), (1, _), (2, _)] (nI (k + 1)) dX4_alike_119 rfl 3 rfl (nI_1 (k)) (by decide) rfl ?_
                                    refine k_goto 122 24 C dX4_alike_122 (by decide) ?_
                                    refine k_perm [0, 1, 4, 5, 6] (L' := [(4, _), (3, _), (0, _), (1, _), (2, _)]) rfl ?_
                                    exact ih (np d - (k + 1)) zm d b (k + 1) _ rfl zdd zdb zk (by rw [← hu, ← zi]; rfl) ei
                                · exact absurd h53 (by decide)
  refine k_aload_n 0 1 C dX4_alike_0 rfl 0 rfl ?_
  refine k_iload_n 1 2 C dX4_alike_1 rfl 1 rfl ?_
  refine k_callVI 2 5 C [_] [] dX4_alike_2 rfl (ct_X4_isDrawing hM hf hw) mi_X4_isDrawing ml_X4_89 im_X4_isDrawing se_X4_isDrawing ci_X4 (IsMdl.o ‹_›) rfl rfl ⟨Nat.le_of_ble_eq_true rfl, Nat.le_of_ble_eq_true rfl⟩ (Nat.le_of_ble_eq_true rfl) (Nat.zero_le _) (Nat.zero_le _) (fun r2 V2 p2 => ?_)
  obtain ⟨rfl, rfl⟩ := And.intro p2.1.symm p2.2
  refine k_ifb_eq 5 16 8 C dX4_alike_5 (by decide) rfl (fun h5 => ?_) (fun h5 => ?_)
  · have ee : mAl f n np i j = -2000000001 := by unfold mAl; rw [if_neg (fun zz => h5 zz.1)]
    refine k_ldc 16 18 C dX4_alike_16 rfl kc_X4_61 ?_
    refine k_iret 18 C dX4_alike_18 rfl ?_
    exact ⟨rfl, ee.symm⟩
  · refine k_aload_n 8 9 C dX4_alike_8 rfl 0 rfl ?_
    refine k_iload_n 9 10 C dX4_alike_9 rfl 2 rfl ?_
    refine k_callVI 10 13 C [_] [] dX4_alike_10 rfl (ct_X4_isDrawing hM hf hw) mi_X4_isDrawing ml_X4_89 im_X4_isDrawing se_X4_isDrawing ci_X4 (IsMdl.o ‹_›) rfl rfl ⟨Nat.le_of_ble_eq_true rfl, Nat.le_of_ble_eq_true rfl⟩ (Nat.le_of_ble_eq_true rfl) (Nat.zero_le _) (Nat.zero_le _) (fun r10 V10 p10 => ?_)
    obtain ⟨rfl, rfl⟩ := And.intro p10.1.symm p10.2
    refine k_ifb_ne 13 19 16 C dX4_alike_13 (by decide) rfl (fun h13 => ?_) (fun h13 => ?_)
    · obtain ⟨d, zdd, rfl, zcd⟩ := inM_n (by omega) h5
      obtain ⟨b, zdb, rfl, zcb⟩ := inM_n (by omega) h13
      have ee : mAl f n np (nI d) (nI b) = mAlk f d b (min (np d) (np b)) := by unfold mAl; rw [if_pos ⟨h5, h13⟩, zcd, zcb]
      refine k_iconst 19 20 C dX4_alike_19 rfl (v := 0) rfl ?_
      refine k_istore_n 20 21 C [(3, _), (0, _), (1, _), (2, _)] dX4_alike_20 rfl (by decide) rfl ?_
      refine k_iconst 21 22 C dX4_alike_21 rfl (v := 0) rfl ?_
      refine k_istore 22 24 C [(4, _), (3, _), (0, _), (1, _), (2, _)] dX4_alike_22 rfl (by decide) rfl ?_
      exact loop24 _ d b 0 0 rfl zdd zdb ⟨Nat.zero_le _, Nat.zero_le _⟩ rfl ee
    · have ee : mAl f n np i j = -2000000001 := by unfold mAl; rw [if_neg (fun zz => h13 zz.2)]
      refine k_ldc 16 18 C dX4_alike_16 rfl kc_X4_61 ?_
      refine k_iret 18 C dX4_alike_18 rfl ?_
      exact ⟨rfl, ee.symm⟩
