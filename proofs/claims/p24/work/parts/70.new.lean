/-! making objects and arrays -/
def zV (V : gV) (q : Nat) : gV := (fun b => if b = q then fun _ => 0 else V.1 b, (fun b => if b = q then fun _ => 0 else V.2.1 b, fun b => if b = q then fun _ => none else V.2.2 b))
def nT (T : gT) (k : kd) : gT := (T.1 + 1, ((fun b => if b = T.1 then some k else T.2.1 b), fun b => if b = T.1 then fun _ => none else T.2.2 b))
def fT (T : gT) (a j b : Nat) : gT := (T.1, (T.2.1, fun x => if x = a then va_up (T.2.2 a) j (some b) else T.2.2 x))
theorem zV_off {V : gV} {q b : Nat} (h : b ≠ q) : (zV V q).1 b = V.1 b ∧ (zV V q).2.1 b = V.2.1 b ∧ (zV V q).2.2 b = V.2.2 b := ⟨if_neg h, if_neg h, if_neg h⟩
theorem ent_T {E : gE} {T T' : gT} {V : gV} {b : Nat} {k : kd} (h : T'.2.2 b = T.2.2 b) : ent E T' V b k = ent E T V b k := by
  cases k with
  | inl q => rfl
  | inr ci => simp only [ent, flds, h]
theorem Rep.new {E : gE} {T : gT} {V : gV} {H H1 : Heap} {k : kd} (hR : Rep E T V H) (hb : gB E ≤ H.size) (z1 : H1.size = H.size + 1) (o1 : ∀ q, q < H.size → H1[q]? = H[q]?) (ha : va_at E.1 classes (T.1, ent E (nT T k) (zV V T.1) T.1 k) H1) : Rep E (nT T k) (zV V T.1) H1 := by
  refine ⟨by show T.1 + 1 = _; rw [hR.1, z1], fun a k2 hk => ?_⟩
  have hk2 : (if a = T.1 then some k else T.2.1 a) = some k2 := hk
  by_cases e1 : a = T.1
  · rw [if_pos e1] at hk2
    cases hk2
    subst e1
    exact ⟨by rw [hR.1]; exact hb, ha⟩
  · rw [if_neg e1] at hk2
    obtain ⟨h1, h2⟩ := hR.2 a k2 hk2
    refine ⟨h1, ?_⟩
    have z := zV_off (V := V) e1
    rw [ent_congr (V := V) z.1 z.2.1 z.2.2, ent_T (T := T) (show (nT T k).2.2 a = T.2.2 a from if_neg e1)]
    exact h2.kept (o1 a h2.lt)
theorem Rep.putF {E : gE} {T : gT} {V : gV} {H H1 : Heap} {a j b : Nat} (hR : Rep E T V H) (z : H1.size = H.size) (oq : ∀ q : Nat, q ≠ a → H1[q]? = H[q]?) (ha : ∀ k, T.2.1 a = some k → va_at E.1 classes (a, ent E (fT T a j b) V a k) H1) : Rep E (fT T a j b) V H1 := by
  refine ⟨hR.1.trans z.symm, fun x k hk => ?_⟩
  obtain ⟨h1, h2⟩ := hR.2 x k hk
  refine ⟨h1, ?_⟩
  by_cases e1 : x = a
  · subst e1
    exact ha k hk
  · rw [ent_T (T := T) (show (fT T a j b).2.2 x = T.2.2 x from if_neg e1)]
    exact h2.kept (oq x e1)
theorem va_S.grow {A : Nat → Prop} {H0 H H1 : Heap} {locs : List Loc} (hS : va_S A H0 H locs) (z1 : H1.size = H.size + 1) (o1 : ∀ q, q < H.size → H1[q]? = H[q]?) : va_S A H0 H1 locs := ⟨Nat.le_trans hS.1 (by omega), fun x h1 h2 => (o1 x (Nat.lt_of_lt_of_le h1 hS.1)).trans (hS.2.1 x h1 h2), hS.2.2⟩
theorem k_newO {E : gE} {T : gT} {V : gV} {p : Program} {l : Launch} {e : Env} {R : Room} {s : State} {m : MethodId} {args : Array Value} {below : List Frame} {meth : Method} {c : Code} {own : String} {cc : ByteArray} {nL : Nat} {ret : Option FieldType} {k n : Nat} {Q : State → Prop} {L : List (Nat × Value)} {st : List Value} (pc q : Nat) (C : Cx E p s m args meth c own cc nL ret) {ci ix N : Nat} {Cn : String} {Tt : u_T} {ty : Nat → FieldType} (hd : decode cc pc = .ok (.new ix, 3)) (hq : pc + 3 = q) (I : CI ci Cn Tt N ty) (hcl : Cond.classLink own ix Cn ∈ GW) (hin : Cond.instantiable Cn N ∈ GW) (hini : Cond.initialized Cn ∈ GW) (hdef : ∀ j, j < N → defaultValue (ty j) = vp_V (flds (nT T (.inr ci)) (zV V T.1) T.1 ci) j) (hk : k + 1 ≤ R.cells) (hn : n + N ≤ R.slots) (K : KW E (nT T (.inr ci)) (zV V T.1) p l e R s m args below meth c nL (k + 1) (n + N) Q q L (.ref T.1 :: st)) : KW E T V p l e R s m args below meth c nL k n Q pc L st := by
  subst hq
  intro H ls locs hR hS hl
  have hKn := C.K.1 ci _ I.1
  have hz : T.1 = H.size := hR.1
  refine W.newcK C.x C.b C.ow (C.ts _ hcl) (C.ts _ hin) (C.ts _ hini) rfl hd hk hn hKn.2.1 rfl fun H1 kC hkC e1 z1 o1 => ?_
  have ha : va_at E.1 classes (T.1, ent E (nT T (.inr ci)) (zV V T.1) T.1 (.inr ci)) H1 := by
    rw [hz]
    rw [hz] at hdef
    exact ⟨_, I.1, (u_born ty C.ts I.2.1 hKn hkC e1 I.2.2.1).to hdef⟩
  have z := K H1 ls locs (hR.new (Nat.le_trans C.bs hS.1) z1 o1 ha) (hS.grow z1 o1) hl
  rw [hz] at z
  exact z
theorem ty_uniq {E : gE} {s : State} {t : Nat} {ty : FieldType} {cA : ClassId} (K : va_K E.1 classes (tyl E) s) (ht : (tyl E)[t]? = some (E.2.1 t, ty)) (hp : ∀ C, ty ≠ .object C) (h : s.vm.findClass ("[" ++ ty.toString) = some cA) : cA = E.2.1 t := by
  have z := (K.2 t _ ht).2
  cases ty with
  | object C => exact absurd rfl (hp C)
  | _ => exact Option.some.inj (h.symm.trans z)
theorem ty_uniqO {E : gE} {s : State} {t : Nat} {Cn : String} {cA : ClassId} (K : va_K E.1 classes (tyl E) s) (ht : (tyl E)[t]? = some (E.2.1 t, .object Cn)) (h : s.vm.findClass ("[" ++ (FieldType.object Cn).toString) = some cA) : cA = E.2.1 t := by
  obtain ⟨kA, comp, -, -, -, z⟩ := (K.2 t _ ht).2
  exact Option.some.inj (h.symm.trans z)
theorem k_newA {E : gE} {T : gT} {V : gV} {p : Program} {l : Launch} {e : Env} {R : Room} {s : State} {m : MethodId} {args : Array Value} {below : List Frame} {meth : Method} {c : Code} {own : String} {cc : ByteArray} {nL : Nat} {ret : Option FieldType} {k n : Nat} {Q : State → Prop} {L : List (Nat × Value)} {st : List Value} (pc q : Nat) (C : Cx E p s m args meth c own cc nL ret) (t : Nat) {atype : ArrayType} {x : Int32} {N : Nat} (hd : decode cc pc = .ok (.newarray atype, 2)) (hq : pc + 2 = q) (hac : Cond.arrayClass (newarray.typeOf atype) ∈ GW) (ht : (tyl E)[t]? = some (E.2.1 t, newarray.typeOf atype)) (hp : ∀ Cn, newarray.typeOf atype ≠ .object Cn) (hcell : ∀ cA : ClassId, vp_cell cA (N, arrv (zV V T.1) T.1 t) = arrV cA N (fun _ => defaultValue (newarray.typeOf atype))) (hx : ¬ x < 0) (hN : x.toNatClampNeg = N) (hb : N * componentBytes (newarray.typeOf atype) ≤ 536870912) (hk : k + 1 ≤ R.cells) (hn : n + N ≤ R.slots) (K : KW E (nT T (.inl (t, N))) (zV V T.1) p l e R s m args below meth c nL (k + 1) (n + N) Q q L (.ref T.1 :: st)) : KW E T V p l e R s m args below meth c nL k n Q pc L (.int x :: st) := by
  subst hq
  intro H ls locs hR hS hl
  have hz : T.1 = H.size := hR.1
  refine va_newaK C.x C.b (C.ts _ hac) rfl hd rfl hx hN hb hk hn rfl fun H1 cA e1 z1 o1 _ hNm => ?_
  have hc : cA = E.2.1 t := ty_uniq C.K ht hp hNm
  have ha : va_at E.1 classes (T.1, ent E (nT T (.inl (t, N))) (zV V T.1) T.1 (.inl (t, N))) H1 := by
    show H1[T.1]? = some (vp_cell (E.2.1 t) (N, arrv (zV V T.1) T.1 t))
    rw [hcell, hz, ← hc]; exact e1
  have z := K H1 ls locs (hR.new (Nat.le_trans C.bs hS.1) z1 o1 ha) (hS.grow z1 o1) hl
  rw [hz] at z
  exact z
theorem k_newQ {E : gE} {T : gT} {V : gV} {p : Program} {l : Launch} {e : Env} {R : Room} {s : State} {m : MethodId} {args : Array Value} {below : List Frame} {meth : Method} {c : Code} {own : String} {cc : ByteArray} {nL : Nat} {ret : Option FieldType} {k n : Nat} {Q : State → Prop} {L : List (Nat × Value)} {st : List Value} (pc q : Nat) (C : Cx E p s m args meth c own cc nL ret) (t : Nat) {ix : Nat} {x : Int32} {N : Nat} {Cn : String} (hd : decode cc pc = .ok (.anewarray ix, 3)) (hq : pc + 3 = q) (hcl : Cond.classLink own ix Cn ∈ GW) (ho : va_AO Cn s) (ht : (tyl E)[t]? = some (E.2.1 t, .object Cn)) (hcell : ∀ cA : ClassId, vp_cell cA (N, arrv (zV V T.1) T.1 t) = arrV cA N (fun _ => .null)) (hx : ¬ x < 0) (hN : x.toNatClampNeg = N) (hb : N * 4 ≤ 536870912) (hk : k + 1 ≤ R.cells) (hn : n + N ≤ R.slots) (K : KW E (nT T (.inl (t, N))) (zV V T.1) p l e R s m args below meth c nL (k + 1) (n + N) Q q L (.ref T.1 :: st)) : KW E T V p l e R s m args below meth c nL k n Q pc L (.int x :: st) := by
  subst hq
  subst hN
  intro H ls locs hR hS hl
  have hz : T.1 = H.size := hR.1
  refine W.anew C.x C.b C.ow (C.ts _ hcl) (va_AO.use ho) rfl hd rfl hx hb hk hn fun cA kA comp f1 f2 f3 f4 => ?_
  generalize hH1 : H.push ({ cls := cA, slots := Array.replicate x.toNatClampNeg .null, vm := .none } : Cell) = H1
  have z1 : H1.size = H.size + 1 := by rw [← hH1, Array.size_push]
  have e1 : H1[H.size]? = some (arrV cA x.toNatClampNeg (fun _ => .null)) := by rw [← hH1, Array.getElem?_push_size, ← arrV_new]
  have o1 : ∀ q : Nat, q < H.size → H1[q]? = H[q]? := fun q hq => by rw [← hH1, Array.getElem?_push, if_neg (Nat.ne_of_lt hq)]
  have hc : cA = E.2.1 t := ty_uniqO C.K ht f1
  have ha : va_at E.1 classes (T.1, ent E (nT T (.inl (t, x.toNatClampNeg))) (zV V T.1) T.1 (.inl (t, x.toNatClampNeg))) H1 := by
    show H1[T.1]? = some (vp_cell (E.2.1 t) (x.toNatClampNeg, arrv (zV V T.1) T.1 t))
    rw [hcell, hz, ← hc]; exact e1
  have z := K H1 ls locs (hR.new (Nat.le_trans C.bs hS.1) z1 o1 ha) (hS.grow z1 o1) hl
  rw [hz] at z
  exact z
theorem k_putF {E : gE} {T : gT} {V : gV} {p : Program} {l : Launch} {e : Env} {R : Room} {s : State} {m : MethodId} {args : Array Value} {below : List Frame} {meth : Method} {c : Code} {own : String} {cc : ByteArray} {nL : Nat} {ret : Option FieldType} {k n : Nat} {Q : State → Prop} {L : List (Nat × Value)} {st : List Value} (pc q : Nat) (C : Cx E p s m args meth c own cc nL ret) (hmn : meth.name = "<init>") {ci N ix a b : Nat} {Cn : String} {Tt : u_T} {ty0 : Nat → FieldType} (hd : decode cc pc = .ok (.putfield ix, 3)) (hq : pc + 3 = q) (I : CI ci Cn Tt N ty0) (j : Nat) (hw : Cond.fieldLink own ix (Tt j).1 (Tt j).2.1 (Tt j).2.2.1 ∈ GW) (ho : tO T a ci) (hj : j < N) (hfin : (Tt j).2.2.2 = true) (hdecl : (Tt j).1 = own) (hn : narrow (ty0 j) (.ref b) = .ref b) (hfit : fits (ty0 j) (.ref b) = true) (hset : flds (fT T a j b) V a ci = (flds T V a ci).set j (.ref b)) (K : KW E (fT T a j b) V p l e R s m args below meth c nL k n Q q L st) : KW E T V p l e R s m args below meth c nL k n Q pc L (.ref b :: .ref a :: st) := by
  subst hq
  intro H ls locs hR hS hl
  obtain ⟨h1, h2⟩ := hR.2 a _ ho
  have hap := va_apart (own := own) C.ts I.2.1 ty0 I.2.2.1 I.2.2.2.1 C.K I.1
  obtain ⟨r, g1, cell, q1, q2, q3, q4⟩ := h2
  have hr : r = (Cn, Tt, N) := Option.some.inj (g1.symm.trans I.1)
  subst hr
  obtain ⟨hSl, hfc, kC, hkC, hkind⟩ := C.K.1 ci _ I.1
  obtain ⟨cf, kf, fi, f, hi, hsl⟩ := hSl j hj
  have hlay := C.ts _ (I.2.1 _ (u_in_lay hj))
  unfold u_lay at hlay
  rw [if_pos hfin] at hlay
  have hst := (u_facts hfc hkC (u_lays C.ts I.2.1 hj) hi).1
  have hcf : m.cls = cf := by
    obtain ⟨_, _, c', _, _, _, -, -, hf', -, -, -, hown2, -⟩ := Cond.laysFinal_spec hlay
    have e1 : c' = cf := by have := hi.symm.trans hf'; simp at this; exact this.1.symm
    rw [hdecl] at hown2
    rw [← e1]; exact Option.some.inj (C.ow.symm.trans hown2)
  have h6 := u_fits hfc hkC hkind (Or.inr hlay) hi (I.2.2.1 j hj) hn hfit
  refine W.putFinK C.x C.b C.ow (C.ts _ hw) hi hst hcf hmn (by rw [q2]; exact h6) q1 q3 (by rw [hsl]; exact k2_hasslot (q4 j hj)) rfl rfl hd fun H' e1 e2 e3 => ?_
  rw [hsl] at e1 ⊢
  refine K H' ls _ (hR.putF e2 e3 fun k2 hk2 => ?_) (hS.put e2 e3 h1) hl
  have hk3 : k2 = .inr ci := Option.some.inj (hk2.symm.trans ho)
  subst hk3
  show ∃ r : vw_C, classes[ci]? = some r ∧ t_OB a (E.1.1 ci) r.2.2 (E.1.2 ci) H' (vp_V (flds (fT T a j b) V a ci))
  rw [hset]
  exact ⟨_, I.1, t_OB.to (V := updV (vp_V (flds T V a ci)) j (.ref b)) ⟨_, e1, q2, q3, t_set q4 hap hj _⟩ (fun i _ => vp_updV_set (by rw [I.2.2.2.2]; exact hj) _ i)⟩
theorem k_objI {E : gE} {T : gT} {V : gV} {p : Program} {l : Launch} {e : Env} {R : Room} {s : State} {m : MethodId} {args : Array Value} {below : List Frame} {meth : Method} {c : Code} {own : String} {cc : ByteArray} {nL : Nat} {ret : Option FieldType} {k n : Nat} {Q : State → Prop} {L : List (Nat × Value)} {st : List Value} (pc q : Nat) (C : Cx E p s m args meth c own cc nL ret) {ix a : Nat} (hd : decode cc pc = .ok (.invokespecial ix, 3)) (hq : pc + 3 = q) (hw : Cond.methodLink own ix objectInit ∈ GW) (hf : 1 ≤ R.frames) (hlo : (st.map fun v => v.category).sum + 12 ≤ R.locals) (K : KW E T V p l e R s m args below meth c nL k n Q q L st) : KW E T V p l e R s m args below meth c nL k n Q pc L (.ref a :: st) := by
  subst hq
  intro H ls locs hR hS hl
  exact W.objInit C.x C.b C.ow (C.ts _ hw) (C.ts _ im_objectInit) (C.ts _ cd_objectInit) (g := F0 m pc ls (.ref a :: st)) rfl (hl.1.trans C.ml.symm) rfl hd hf (by show 2 * 0 + _ + 12 ≤ _; omega) (K H ls locs hR hS hl)
/-- a contract that makes things -/
def CtN (E : gE) (T : gT) (l : Launch) (y : MethodName) (ws : List Cond) (rm : Room) (av : List Value) (V : gV) (Post : gT → gV → Prop) (mc ms : Nat) : Prop := Met l y ws rm (va_Pc av (RepS E T V)) (va_Qv (fun u : gT × gV => Post u.1 u.2) (fun u => RepS E u.1 u.2) (gA E)) mc ms (gA E)
theorem ctN_of {E : gE} {T : gT} {l : Launch} {y : MethodName} {rm : Room} {av : List Value} {V : gV} {Post : gT → gV → Prop} {maxL mc ms : Nat} {own : String} {cc : ByteArray} {ret : Option FieldType} (hy : plainName y.cls = true) (ho : y.cls = own) (hlen : (lg_sl av).length ≤ maxL) {L : List (Nat × Value)} (hL : lv_args 0 av = L)
    (body : ∀ (p : Program) (e : Env) (s : State) (m : MethodId) (args : Array Value) (below : List Frame) (meth : Method) (c : Code), Cx E p s m args meth c own cc maxL ret → meth.name = y.name → KW E T V p l e rm s m args below meth c maxL 0 0 (MQ below (va_Qv (fun u : gT × gV => Post u.1 u.2) (fun u => RepS E u.1 u.2) (gA E)) args s mc ms (gA E)) 0 L []) : CtN E T l y (gw y cc maxL ret) rm av V Post mc ms := by
  refine Met.ofW (cc := cc) (maxL := maxL) (ret := ret) hy rfl ?_
  intro p e s m args below meth c s₁ B hml hv
  obtain ⟨rfl, h1, h2, h3, h4, h5, h6, h7⟩ := hv
  have hts : ∀ w ∈ GW, w.before av.toArray s = true := fun w h => atoms_spec (ws := gw y cc maxL ret) B.pre w (List.mem_cons_of_mem _ h)
  have C : Cx E p s m av.toArray meth c own cc maxL ret := ⟨B.exec, B.bytes, hml, by rw [← ho]; exact findClass_of_methodNamed B.named, hts, B.notSynchronized, h3, h4, h5, h6, h2, B.returns, h7⟩
  have hl := lv_entry av (n := maxL) hlen
  rw [lg_entry_eq]
  exact body p e s m _ below meth c C (name_of_methodNamed B.named B.method).1 s.heap _ [] h1 va_S.rf (hL ▸ hl)
theorem k_nret {E : gE} {T : gT} {V : gV} {p : Program} {l : Launch} {e : Env} {R : Room} {s : State} {m : MethodId} {args : Array Value} {below : List Frame} {meth : Method} {c : Code} {own : String} {cc : ByteArray} {nL : Nat} {ret : Option FieldType} {k n : Nat} {L : List (Nat × Value)} (pc : Nat) (C : Cx E p s m args meth c own cc nL ret) {Post : gT → gV → Prop} (hd : decode cc pc = .ok (.return_, 1)) (hr : ret = none) (h : Post T V) : KW E T V p l e R s m args below meth c nL k n (MQ below (va_Qv (fun u : gT × gV => Post u.1 u.2) (fun u => RepS E u.1 u.2) (gA E)) args s k n (gA E)) pc L [] := by
  intro H ls locs hR hS hl
  exact W.vret C.x C.b (C.re.trans hr) (fun t ht hW => ⟨⟨(T, V), rfl, h, C.out hS hR ht hW⟩, hS.F ht⟩) hS.2.2 hd C.lk
theorem KW.widen {E : gE} {T : gT} {V : gV} {p : Program} {l : Launch} {e : Env} {R : Room} {s : State} {m : MethodId} {args : Array Value} {below : List Frame} {meth : Method} {c : Code} {nL : Nat} {k n k2 n2 : Nat} {Q : State → Prop} {pc : Nat} {L : List (Nat × Value)} {st : List Value} (h1 : k ≤ k2) (h2 : n ≤ n2) (K : KW E T V p l e R s m args below meth c nL k2 n2 Q pc L st) : KW E T V p l e R s m args below meth c nL k n Q pc L st := fun H ls locs hR hS hl => W.widen h1 h2 (K H ls locs hR hS hl)
theorem k_callIN {E : gE} {T : gT} {V : gV} {p : Program} {l : Launch} {e : Env} {R : Room} {s : State} {m : MethodId} {args : Array Value} {below : List Frame} {meth : Method} {c : Code} {own : String} {cc : ByteArray} {nL : Nat} {ret : Option FieldType} {k n : Nat} {Q : State → Prop} {L : List (Nat × Value)} {st : List Value} (pc q : Nat) (C : Cx E p s m args meth c own cc nL ret) {y : MethodName} {cc2 : ByteArray} {maxL ix : Nat} {f lo mc ms b : Nat} {Post : gT → gV → Prop} (hd : decode cc pc = .ok (.invokespecial ix, 3)) (hq : pc + 3 = q) (hM : CtN E T l y (gw y cc2 maxL none) { frames := f, cells := mc, slots := ms, locals := lo } [.ref b] V Post mc ms) (I : MI y cc2 maxL none 0) (hyn : y.name = "<init>") (hw : Cond.methodLink own ix y ∈ GW) (hin : Cond.instanceMethod y ∈ GW) (hroom : f + 1 ≤ R.frames ∧ 8 + (maxL + 11) + lo ≤ R.locals) (hcat : (st.map fun v => v.category).sum ≤ 8) (hk : k + mc ≤ R.cells) (hn : n + ms ≤ R.slots) (kk : ∀ (T2 : gT) (V2 : gV), Post T2 V2 → KW E T2 V2 p l e R s m args below meth c nL (k + mc) (n + ms) Q q L st) : KW E T V p l e R s m args below meth c nL k n Q pc L (.ref b :: st) := by
  subst hq
  intro H ls locs hR hS hl
  refine va_callv (va_runI (As := []) (rest := st) (b := b) ⟨C.x, C.b, C.ml, C.ow, C.ts⟩ hM ⟨C.cb I hw rfl rfl hroom, hyn, C.ts _ hin⟩ (C.pre (av := [.ref b]) hR hS) rfl rfl hl.1 rfl (lv_room hcat) hd ⟨hk, hn⟩) hS (fun q _ h => h) (fun q h => h) (fun u t H1 locs1 ht hvm hw2 hB hz1 hk1 hS1 => ?_)
  exact kk u.1 u.2 hw2 H1 ls locs1 (ht ▸ hB.1) hS1 hl
/-- what was there before -/
def ExT (T T' : gT) (D : Nat) : Prop := ∀ b, b < D → T'.2.1 b = T.2.1 b ∧ T'.2.2 b = T.2.2 b
def ExV (V V' : gV) (D : Nat) : Prop := ∀ b, b < D → V'.1 b = V.1 b ∧ V'.2.1 b = V.2.1 b ∧ V'.2.2 b = V.2.2 b
theorem ExT.trans {T T1 T2 : gT} {D : Nat} (h : ExT T T1 D) (h2 : ExT T1 T2 D) : ExT T T2 D := fun b hb => ⟨(h2 b hb).1.trans (h b hb).1, (h2 b hb).2.trans (h b hb).2⟩
theorem ExT.mono {T T1 : gT} {D D2 : Nat} (h : ExT T T1 D2) (hd : D ≤ D2) : ExT T T1 D := fun b hb => h b (by omega)
theorem ExV.trans {V V1 V2 : gV} {D : Nat} (h : ExV V V1 D) (h2 : ExV V1 V2 D) : ExV V V2 D := fun b hb => ⟨(h2 b hb).1.trans (h b hb).1, (h2 b hb).2.1.trans (h b hb).2.1, (h2 b hb).2.2.trans (h b hb).2.2⟩
theorem ExV.mono {V V1 : gV} {D D2 : Nat} (h : ExV V V1 D2) (hd : D ≤ D2) : ExV V V1 D := fun b hb => h b (by omega)
theorem ExT.nT {T : gT} {k : kd} {D : Nat} (h : D ≤ T.1) : ExT T (nT T k) D := fun b hb => ⟨if_neg (by omega), if_neg (by omega)⟩
theorem ExT.fT {T : gT} {a j b D : Nat} (h : D ≤ a) : ExT T (fT T a j b) D := fun x hx => ⟨rfl, if_neg (by omega)⟩
theorem ExV.zV {V : gV} {q D : Nat} (h : D ≤ q) : ExV V (zV V q) D := fun b hb => zV_off (by omega)
theorem ExV.wI {V : gV} {a k D : Nat} {x : Int32} (h : D ≤ a) : ExV V (wI V a k x) D := fun b hb => wI_off b (by omega)
theorem ExV.wL {V : gV} {a k D : Nat} {x : Int64} (h : D ≤ a) : ExV V (wL V a k x) D := fun b hb => wL_off b (by omega)
theorem ExV.wR {V : gV} {a k D : Nat} {x : Option Nat} (h : D ≤ a) : ExV V (wR V a k x) D := fun b hb => wR_off b (by omega)
theorem IsDrw.ex {T T' : gT} {a D : Nat} (h : IsDrw T a) (x : ExT T T' D) (ha : a + 4 ≤ D) : IsDrw T' a := by
  obtain ⟨h1, h2, h3, h4, h5, h6, h7⟩ := h
  have e0 := x a (by omega); have e1 := x (a + 1) (by omega); have e2 := x (a + 2) (by omega); have e3 := x (a + 3) (by omega)
  unfold IsDrw tO tF tA
  rw [e0.1, e0.2, e1.1, e2.1, e3.1]
  exact ⟨h1, h2, h3, h4, h5, h6, h7⟩
theorem IsDsk.ex {T T' : gT} {a D : Nat} (h : IsDsk T a) (x : ExT T T' D) (ha : a + 27 ≤ D) : IsDsk T' a := by
  obtain ⟨h1, h2, h3, h4, h5, h6⟩ := h
  have e0 := x a (by omega); have e1 := x (a + 1) (by omega); have e2 := x (a + 2) (by omega)
  refine ⟨?_, ?_, ?_, ?_, ?_, fun j hj => (h6 j hj).ex x (by omega)⟩
  · unfold tO; rw [e0.1]; exact h1
  · unfold tF; rw [e0.2]; exact h2
  · unfold tA; rw [e1.1]; exact h3
  · unfold tF; rw [e0.2]; exact h4
  · unfold tA; rw [e2.1]; exact h5
theorem IsTxt.ex {T T' : gT} {a D : Nat} (h : IsTxt T a) (x : ExT T T' D) (ha : a + 5 ≤ D) : IsTxt T' a := by
  obtain ⟨h1, h2, h3, h4, h5, h6, h7, h8, h9⟩ := h
  have e0 := x a (by omega); have e1 := x (a + 1) (by omega); have e2 := x (a + 2) (by omega); have e3 := x (a + 3) (by omega); have e4 := x (a + 4) (by omega)
  unfold IsTxt tO tF tA
  rw [e0.1, e0.2, e1.1, e2.1, e3.1, e4.1]
  exact ⟨h1, h2, h3, h4, h5, h6, h7, h8, h9⟩

