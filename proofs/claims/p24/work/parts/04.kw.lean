/-! a heap as functions: kinds and final references (T), ints, longs and references that change (V); E: class data, array classes, the base address, the static arrays -/
abbrev classes : List vw_C := [(RX0, TX0, 12), (RX1, TX1, 11), (RX2, TX2, 9), (RX3, TX3, 4)]
abbrev kd : Type := (Nat × Nat) ⊕ Nat
abbrev gT : Type := Nat × ((Nat → Option kd) × (Nat → Nat → Option Nat))
abbrev gV : Type := (Nat → Nat → Int32) × ((Nat → Nat → Int64) × (Nat → Nat → Option Nat))
abbrev gE : Type := va_G × ((Nat → ClassId) × (Nat × (Nat → Nat)))
abbrev gB (E : gE) : Nat := E.2.2.1
def aty (t : Nat) : FieldType := match t with
  | 0 => .int
  | 1 => .long
  | 2 => .object RX1
  | 3 => .object RX0
  | 4 => .char
  | _ => .boolean
def tyl (E : gE) : List (ClassId × FieldType) := [(E.2.1 0, .int), (E.2.1 1, .long), (E.2.1 2, .object RX1), (E.2.1 3, .object RX0), (E.2.1 4, .char), (E.2.1 5, .boolean)]
def arrv (V : gV) (a : Nat) (t : Nat) : (Nat → Int32) ⊕ (Nat → Int64) ⊕ (Nat → UInt32) ⊕ (Nat → UInt64) ⊕ (Nat → Option Nat) := match t with
  | 0 => .inl (V.1 a)
  | 1 => .inr (.inl (V.2.1 a))
  | 2 => .inr (.inr (.inr (.inr (V.2.2 a))))
  | 3 => .inr (.inr (.inr (.inr (V.2.2 a))))
  | _ => .inl (V.1 a)
def flds (T : gT) (V : gV) (a : Nat) (ci : Nat) : List Value := match ci with
  | 0 => [.int (V.1 a 0), .int (V.1 a 1), .int (V.1 a 2), .int (V.1 a 3), va_rf (T.2.2 a 4), .int (V.1 a 5), .int (V.1 a 6), .int (V.1 a 7), .int (V.1 a 8), .int (V.1 a 9), va_rf (T.2.2 a 10), .int (V.1 a 11)]
  | 1 => [.int (V.1 a 0), .long (V.2.1 a 1), .long (V.2.1 a 2), .int (V.1 a 3), .int (V.1 a 4), .long (V.2.1 a 5), .long (V.2.1 a 6), .int (V.1 a 7), va_rf (T.2.2 a 8), va_rf (T.2.2 a 9), va_rf (T.2.2 a 10)]
  | 2 => [va_rf (T.2.2 a 0), .int (V.1 a 1), .int (V.1 a 2), .int (V.1 a 3), .int (V.1 a 4), va_rf (T.2.2 a 5), va_rf (T.2.2 a 6), va_rf (T.2.2 a 7), .int (V.1 a 8)]
  | _ => [va_rf (V.2.2 a 0), va_rf (T.2.2 a 1), .int (V.1 a 2), va_rf (T.2.2 a 3)]
def ent (E : gE) (T : gT) (V : gV) (a : Nat) (k : kd) : va_E := match k with
  | .inl q => .inl (E.2.1 q.1, q.2, arrv V a q.1)
  | .inr ci => .inr (ci, flds T V a ci)
def Rep (E : gE) (T : gT) (V : gV) (H : Heap) : Prop := T.1 = H.size ∧ ∀ (a : Nat) (k : kd), T.2.1 a = some k → gB E ≤ a ∧ va_at E.1 classes (a, ent E T V a k) H
abbrev gA (E : gE) : Nat → Prop := fun q => gB E ≤ q
def leastv (j : Nat) : Int32 := if j = 2 then 10 else if j = 3 then 10 else if j = 4 then 1 else 0
def mostv (j : Nat) : Int32 := if j = 0 then 2 else if j = 1 then 50 else 1000
def firstv (j : Nat) : Int32 := if j = 2 then 1000 else if j = 3 then 1000 else if j = 4 then 100 else 0
def Stc (E : gE) (U : State) (H : Heap) : Prop :=
  (va_Z "PantographArm" "LEAST_SETTING" "[I" (.ref (E.2.2.2 0)) (gA E) U H ∧ va_X (E.2.2.2 0) 5 leastv U H ∧ E.2.2.2 0 < gB E) ∧
  (va_Z "PantographArm" "MOST_SETTING" "[I" (.ref (E.2.2.2 1)) (gA E) U H ∧ va_X (E.2.2.2 1) 5 mostv U H ∧ E.2.2.2 1 < gB E) ∧
  (va_Z "PantographArm" "FIRST_SETTING" "[I" (.ref (E.2.2.2 2)) (gA E) U H ∧ va_X (E.2.2.2 2) 5 firstv U H ∧ E.2.2.2 2 < gB E)
def RepS (E : gE) (T : gT) (V : gV) (U : State) : Prop := Rep E T V U.heap ∧ gB E ≤ U.heap.size ∧ va_K E.1 classes (tyl E) U ∧ Stc E U U.heap ∧ va_AO RX0 U ∧ va_AO RX1 U ∧ ∀ w ∈ nws, va_Nw w U
theorem Stc.moved {E : gE} {u U : State} {H H1 : Heap} (hvm : u.vm.Alike U.vm) (h : Stc E u H) (hz : gB E ≤ H.size) (hq : ∀ a : Nat, a < H.size → ¬ gA E a → H1[a]? = H[a]?) : Stc E U H1 := by
  have key : ∀ b : Nat, b < gB E → H1[b]? = H[b]? := fun b hb => hq b (Nat.lt_of_lt_of_le hb hz) (Nat.not_le.mpr hb)
  obtain ⟨⟨a1, a2, a3⟩, ⟨b1, b2, b3⟩, c1, c2, c3⟩ := h
  exact ⟨⟨(a1.kept hq).moved hvm, (a2.kept (key _ a3)).moved hvm, a3⟩, ⟨(b1.kept hq).moved hvm, (b2.kept (key _ b3)).moved hvm, b3⟩, (c1.kept hq).moved hvm, (c2.kept (key _ c3)).moved hvm, c3⟩
theorem Stc.calling {E : gE} {U : State} {H : Heap} {g : JFrame} {mk : MethodId} {a : Array Value} (h : Stc E U H) : Stc E (U.calling g mk a) H := by
  obtain ⟨⟨a1, a2, a3⟩, ⟨b1, b2, b3⟩, c1, c2, c3⟩ := h
  have e : U.vm.Alike (U.calling g mk a).vm := Vm.Alike.refl U.vm
  exact ⟨⟨a1.moved e, a2.moved e, a3⟩, ⟨b1.moved e, b2.moved e, b3⟩, c1.moved e, c2.moved e, c3⟩
theorem RepS.blind {E : gE} {T : gT} {V : gV} {av : List Value} : FrameBlind (va_Pc av (RepS E T V)) := by
  intro a U g mk h
  obtain ⟨h0, h1, h2, h3, h4, h5, h6, h7⟩ := h
  have e : U.vm.Alike (U.calling g mk a).vm := Vm.Alike.refl U.vm
  exact ⟨h0, h1, h2, va_K.moved (u := U) (U := U.calling g mk a) e h3, h4.calling, h5.moved e, h6.moved e, fun w hw => va_Nw.same (nws_on hw) (u := U) (U := U.calling g mk a) rfl (h7 w hw)⟩
/-- what a method knows of its start, the whole way -/
def Cx (E : gE) (p : Program) (s : State) (m : MethodId) (args : Array Value) (meth : Method) (c : Code) (own : String) (cc : ByteArray) (nL : Nat) (ret : Option FieldType) : Prop :=
  p.tables.exec = Jvm.exec ∧ c.code = cc ∧ c.maxLocals = nL ∧ s.vm.findClass own = some m.cls ∧ (∀ w ∈ GW, w.before args s = true) ∧ meth.locks = false ∧ va_K E.1 classes (tyl E) s ∧ Stc E s s.heap ∧ va_AO RX0 s ∧ va_AO RX1 s ∧ gB E ≤ s.heap.size ∧ meth.sig.returnType = ret ∧ ∀ w ∈ nws, va_Nw w s
section CXS
variable {E : gE} {p : Program} {s : State} {m : MethodId} {args : Array Value} {meth : Method} {c : Code} {own : String} {cc : ByteArray} {nL : Nat} {ret : Option FieldType}
theorem Cx.x (C : Cx E p s m args meth c own cc nL ret) : p.tables.exec = Jvm.exec := C.1
theorem Cx.b (C : Cx E p s m args meth c own cc nL ret) : c.code = cc := C.2.1
theorem Cx.ml (C : Cx E p s m args meth c own cc nL ret) : c.maxLocals = nL := C.2.2.1
theorem Cx.ow (C : Cx E p s m args meth c own cc nL ret) : s.vm.findClass own = some m.cls := C.2.2.2.1
theorem Cx.ts (C : Cx E p s m args meth c own cc nL ret) : ∀ w ∈ GW, w.before args s = true := C.2.2.2.2.1
theorem Cx.lk (C : Cx E p s m args meth c own cc nL ret) : meth.locks = false := C.2.2.2.2.2.1
theorem Cx.K (C : Cx E p s m args meth c own cc nL ret) : va_K E.1 classes (tyl E) s := C.2.2.2.2.2.2.1
theorem Cx.st (C : Cx E p s m args meth c own cc nL ret) : Stc E s s.heap := C.2.2.2.2.2.2.2.1
theorem Cx.ao0 (C : Cx E p s m args meth c own cc nL ret) : va_AO RX0 s := C.2.2.2.2.2.2.2.2.1
theorem Cx.ao1 (C : Cx E p s m args meth c own cc nL ret) : va_AO RX1 s := C.2.2.2.2.2.2.2.2.2.1
theorem Cx.bs (C : Cx E p s m args meth c own cc nL ret) : gB E ≤ s.heap.size := C.2.2.2.2.2.2.2.2.2.2.1
theorem Cx.re (C : Cx E p s m args meth c own cc nL ret) : meth.sig.returnType = ret := C.2.2.2.2.2.2.2.2.2.2.2.1
theorem Cx.nw (C : Cx E p s m args meth c own cc nL ret) : ∀ w ∈ nws, va_Nw w s := C.2.2.2.2.2.2.2.2.2.2.2.2
theorem Cx.out {T : gT} {V : gV} {H : Heap} {locs : List Loc} (C : Cx E p s m args meth c own cc nL ret) (hS : va_S (gA E) s.heap H locs) (hR : Rep E T V H) {t : State} (ht : t.heap = H) (hW : s.WarmedH t.vm) : RepS E T V t := by
  have hvm := hW.alike
  refine ⟨by rw [ht]; exact hR, by rw [ht]; exact Nat.le_trans C.bs hS.1, va_K.moved hvm C.K, ?_, C.ao0.moved hvm, C.ao1.moved hvm, nws_warm hW C.nw⟩
  rw [ht]
  exact C.st.moved hvm C.bs (fun a h1 h2 => hS.2.1 a h1 h2)
end CXS
/-- the walk stands at pc, with these locals and this stack, over a heap that the functions describe -/
def KW (E : gE) (T : gT) (V : gV) (p : Program) (l : Launch) (e : Env) (R : Room) (s : State) (m : MethodId) (args : Array Value) (below : List Frame) (meth : Method) (c : Code) (nL k n : Nat) (Q : State → Prop) (pc : Nat) (L : List (Nat × Value)) (st : List Value) : Prop :=
  ∀ (H : Heap) (ls : Array Slot) (locs : List Loc), Rep E T V H → va_S (gA E) s.heap H locs → lv_has ls nL L → W p l e R s m args below meth c H locs k n Q (F0 m pc ls st)
/-- what is known of a class of ours -/
def CI (ci : Nat) (Cn : String) (Tt : u_T) (N : Nat) (ty : Nat → FieldType) : Prop := classes[ci]? = some (Cn, Tt, N) ∧ (∀ w ∈ u_ws Cn Tt N, w ∈ GW) ∧ (∀ k, k < N → parseFieldDescriptor (Tt k).2.2.1 = some (ty k)) ∧ (∀ a, a < N → ∀ b, b < N → a ≠ b → (Tt a).2.1 ≠ (Tt b).2.1) ∧ ∀ (T : gT) (V : gV) (a : Nat), (flds T V a ci).length = N
theorem ci_X0 : CI 0 RX0 TX0 12 tyX0 := ⟨rfl, inGX0, tyX0_ok, nmX0, fun _ _ _ => rfl⟩
theorem ci_X1 : CI 1 RX1 TX1 11 tyX1 := ⟨rfl, inGX1, tyX1_ok, nmX1, fun _ _ _ => rfl⟩
theorem ci_X2 : CI 2 RX2 TX2 9 tyX2 := ⟨rfl, inGX2, tyX2_ok, nmX2, fun _ _ _ => rfl⟩
theorem ci_X3 : CI 3 RX3 TX3 4 tyX3 := ⟨rfl, inGX3, tyX3_ok, nmX3, fun _ _ _ => rfl⟩
def tO (T : gT) (a ci : Nat) : Prop := T.2.1 a = some (.inr ci)
def tA (T : gT) (a t n : Nat) : Prop := T.2.1 a = some (.inl (t, n))
def tF (T : gT) (a k b : Nat) : Prop := T.2.2 a k = some b
/-- one place written -/
def wI (V : gV) (a k : Nat) (x : Int32) : gV := (fun b => if b = a then upd (V.1 a) k x else V.1 b, V.2)
def wL (V : gV) (a k : Nat) (x : Int64) : gV := (V.1, (fun b => if b = a then vp_updL (V.2.1 a) k x else V.2.1 b, V.2.2))
def wR (V : gV) (a k : Nat) (x : Option Nat) : gV := (V.1, (V.2.1, fun b => if b = a then va_up (V.2.2 a) k x else V.2.2 b))
theorem ent_congr {E : gE} {T : gT} {V V' : gV} {b : Nat} {k : kd} (h1 : V'.1 b = V.1 b) (h2 : V'.2.1 b = V.2.1 b) (h3 : V'.2.2 b = V.2.2 b) : ent E T V' b k = ent E T V b k := by
  cases k with
  | inl q => simp only [ent, arrv, h1, h2, h3]
  | inr ci => simp only [ent, flds, h1, h2, h3]
theorem Rep.put {E : gE} {T : gT} {V V' : gV} {H H1 : Heap} {a : Nat} (hR : Rep E T V H) (z : H1.size = H.size) (oq : ∀ q : Nat, q ≠ a → H1[q]? = H[q]?)
    (hs : ∀ b : Nat, b ≠ a → V'.1 b = V.1 b ∧ V'.2.1 b = V.2.1 b ∧ V'.2.2 b = V.2.2 b) (ha : ∀ k, T.2.1 a = some k → va_at E.1 classes (a, ent E T V' a k) H1) : Rep E T V' H1 := by
  refine ⟨hR.1.trans z.symm, fun b k hk => ?_⟩
  obtain ⟨h1, h2⟩ := hR.2 b k hk
  refine ⟨h1, ?_⟩
  by_cases e : b = a
  · subst e
    exact ha k hk
  · obtain ⟨e1, e2, e3⟩ := hs b e
    rw [ent_congr e1 e2 e3]
    exact h2.kept (oq b e)
theorem wI_off {V : gV} {a k : Nat} {x : Int32} : ∀ b : Nat, b ≠ a → (wI V a k x).1 b = V.1 b ∧ (wI V a k x).2.1 b = V.2.1 b ∧ (wI V a k x).2.2 b = V.2.2 b := fun b h => ⟨if_neg h, rfl, rfl⟩
theorem wL_off {V : gV} {a k : Nat} {x : Int64} : ∀ b : Nat, b ≠ a → (wL V a k x).1 b = V.1 b ∧ (wL V a k x).2.1 b = V.2.1 b ∧ (wL V a k x).2.2 b = V.2.2 b := fun b h => ⟨rfl, if_neg h, rfl⟩
theorem wR_off {V : gV} {a k : Nat} {x : Option Nat} : ∀ b : Nat, b ≠ a → (wR V a k x).1 b = V.1 b ∧ (wR V a k x).2.1 b = V.2.1 b ∧ (wR V a k x).2.2 b = V.2.2 b := fun b h => ⟨rfl, rfl, if_neg h⟩
section KWS
variable {E : gE} {T : gT} {V : gV} {p : Program} {l : Launch} {e : Env} {R : Room} {s : State} {m : MethodId} {args : Array Value} {below : List Frame} {meth : Method} {c : Code} {own : String} {cc : ByteArray} {nL : Nat} {ret : Option FieldType} {k n : Nat} {Q : State → Prop} {L : List (Nat × Value)} {st : List Value}

theorem k_iadd (pc q : Nat) (C : Cx E p s m args meth c own cc nL ret) {x y : Int32} (hd : decode cc pc = .ok (.iadd, 1)) (hq : pc + 1 = q)  (K : KW E T V p l e R s m args below meth c nL k n Q q L (.int (x + y) :: st)) : KW E T V p l e R s m args below meth c nL k n Q pc L (.int y :: .int x :: st) := by
  subst hq
  intro H ls locs hR hS hl
  exact lv_iadd C.x C.b hd (K H ls locs hR hS hl)
theorem k_isub (pc q : Nat) (C : Cx E p s m args meth c own cc nL ret) {x y : Int32} (hd : decode cc pc = .ok (.isub, 1)) (hq : pc + 1 = q)  (K : KW E T V p l e R s m args below meth c nL k n Q q L (.int (x - y) :: st)) : KW E T V p l e R s m args below meth c nL k n Q pc L (.int y :: .int x :: st) := by
  subst hq
  intro H ls locs hR hS hl
  exact lv_isub C.x C.b hd (K H ls locs hR hS hl)
theorem k_imul (pc q : Nat) (C : Cx E p s m args meth c own cc nL ret) {x y : Int32} (hd : decode cc pc = .ok (.imul, 1)) (hq : pc + 1 = q)  (K : KW E T V p l e R s m args below meth c nL k n Q q L (.int (x * y) :: st)) : KW E T V p l e R s m args below meth c nL k n Q pc L (.int y :: .int x :: st) := by
  subst hq
  intro H ls locs hR hS hl
  exact lv_imul C.x C.b hd (K H ls locs hR hS hl)
theorem k_iand (pc q : Nat) (C : Cx E p s m args meth c own cc nL ret) {x y : Int32} (hd : decode cc pc = .ok (.iand, 1)) (hq : pc + 1 = q)  (K : KW E T V p l e R s m args below meth c nL k n Q q L (.int (x &&& y) :: st)) : KW E T V p l e R s m args below meth c nL k n Q pc L (.int y :: .int x :: st) := by
  subst hq
  intro H ls locs hR hS hl
  exact lv_iand C.x C.b hd (K H ls locs hR hS hl)
theorem k_ishl (pc q : Nat) (C : Cx E p s m args meth c own cc nL ret) {x y : Int32} (hd : decode cc pc = .ok (.ishl, 1)) (hq : pc + 1 = q)  (K : KW E T V p l e R s m args below meth c nL k n Q q L (.int (x <<< (y &&& 31)) :: st)) : KW E T V p l e R s m args below meth c nL k n Q pc L (.int y :: .int x :: st) := by
  subst hq
  intro H ls locs hR hS hl
  exact lv_ishl C.x C.b hd (K H ls locs hR hS hl)
theorem k_idiv (pc q : Nat) (C : Cx E p s m args meth c own cc nL ret) {x y : Int32} (hd : decode cc pc = .ok (.idiv, 1)) (hq : pc + 1 = q) (hne : ¬ y = 0) (K : KW E T V p l e R s m args below meth c nL k n Q q L (.int (x / y) :: st)) : KW E T V p l e R s m args below meth c nL k n Q pc L (.int y :: .int x :: st) := by
  subst hq
  intro H ls locs hR hS hl
  exact lv_idiv C.x C.b hd hne (K H ls locs hR hS hl)
theorem k_irem (pc q : Nat) (C : Cx E p s m args meth c own cc nL ret) {x y : Int32} (hd : decode cc pc = .ok (.irem, 1)) (hq : pc + 1 = q) (hne : ¬ y = 0) (K : KW E T V p l e R s m args below meth c nL k n Q q L (.int (x - x / y * y) :: st)) : KW E T V p l e R s m args below meth c nL k n Q pc L (.int y :: .int x :: st) := by
  subst hq
  intro H ls locs hR hS hl
  exact lv_irem C.x C.b hd hne (K H ls locs hR hS hl)
theorem k_ladd (pc q : Nat) (C : Cx E p s m args meth c own cc nL ret) {x y : Int64} (hd : decode cc pc = .ok (.ladd, 1)) (hq : pc + 1 = q)  (K : KW E T V p l e R s m args below meth c nL k n Q q L (.long (x + y) :: st)) : KW E T V p l e R s m args below meth c nL k n Q pc L (.long y :: .long x :: st) := by
  subst hq
  intro H ls locs hR hS hl
  exact lv_ladd C.x C.b hd (K H ls locs hR hS hl)
theorem k_lsub (pc q : Nat) (C : Cx E p s m args meth c own cc nL ret) {x y : Int64} (hd : decode cc pc = .ok (.lsub, 1)) (hq : pc + 1 = q)  (K : KW E T V p l e R s m args below meth c nL k n Q q L (.long (x - y) :: st)) : KW E T V p l e R s m args below meth c nL k n Q pc L (.long y :: .long x :: st) := by
  subst hq
  intro H ls locs hR hS hl
  exact lv_lsub C.x C.b hd (K H ls locs hR hS hl)
theorem k_lmul (pc q : Nat) (C : Cx E p s m args meth c own cc nL ret) {x y : Int64} (hd : decode cc pc = .ok (.lmul, 1)) (hq : pc + 1 = q)  (K : KW E T V p l e R s m args below meth c nL k n Q q L (.long (x * y) :: st)) : KW E T V p l e R s m args below meth c nL k n Q pc L (.long y :: .long x :: st) := by
  subst hq
  intro H ls locs hR hS hl
  exact lv_lmul C.x C.b hd (K H ls locs hR hS hl)
theorem k_ldiv (pc q : Nat) (C : Cx E p s m args meth c own cc nL ret) {x y : Int64} (hd : decode cc pc = .ok (.ldiv, 1)) (hq : pc + 1 = q) (hne : ¬ y = 0) (K : KW E T V p l e R s m args below meth c nL k n Q q L (.long (x / y) :: st)) : KW E T V p l e R s m args below meth c nL k n Q pc L (.long y :: .long x :: st) := by
  subst hq
  intro H ls locs hR hS hl
  exact lv_ldiv C.x C.b hd hne (K H ls locs hR hS hl)
theorem k_lrem (pc q : Nat) (C : Cx E p s m args meth c own cc nL ret) {x y : Int64} (hd : decode cc pc = .ok (.lrem, 1)) (hq : pc + 1 = q) (hne : ¬ y = 0) (K : KW E T V p l e R s m args below meth c nL k n Q q L (.long (x - x / y * y) :: st)) : KW E T V p l e R s m args below meth c nL k n Q pc L (.long y :: .long x :: st) := by
  subst hq
  intro H ls locs hR hS hl
  exact lv_lrem C.x C.b hd hne (K H ls locs hR hS hl)
theorem k_lneg (pc q : Nat) (C : Cx E p s m args meth c own cc nL ret) {x : Int64} (hd : decode cc pc = .ok (.lneg, 1)) (hq : pc + 1 = q)  (K : KW E T V p l e R s m args below meth c nL k n Q q L (.long (-x) :: st)) : KW E T V p l e R s m args below meth c nL k n Q pc L (.long x :: st) := by
  subst hq
  intro H ls locs hR hS hl
  exact lv_lneg C.x C.b hd (K H ls locs hR hS hl)
theorem k_i2l (pc q : Nat) (C : Cx E p s m args meth c own cc nL ret) {x : Int32} (hd : decode cc pc = .ok (.i2l, 1)) (hq : pc + 1 = q)  (K : KW E T V p l e R s m args below meth c nL k n Q q L (.long x.toInt64 :: st)) : KW E T V p l e R s m args below meth c nL k n Q pc L (.int x :: st) := by
  subst hq
  intro H ls locs hR hS hl
  exact lv_i2l C.x C.b hd rfl (K H ls locs hR hS hl)
theorem k_l2i (pc q : Nat) (C : Cx E p s m args meth c own cc nL ret) {x : Int64} (hd : decode cc pc = .ok (.l2i, 1)) (hq : pc + 1 = q)  (K : KW E T V p l e R s m args below meth c nL k n Q q L (.int x.toInt32 :: st)) : KW E T V p l e R s m args below meth c nL k n Q pc L (.long x :: st) := by
  subst hq
  intro H ls locs hR hS hl
  exact lv_l2i C.x C.b hd rfl (K H ls locs hR hS hl)
theorem k_l2f (pc q : Nat) (C : Cx E p s m args meth c own cc nL ret) {x : Int64} (hd : decode cc pc = .ok (.l2f, 1)) (hq : pc + 1 = q)  (K : KW E T V p l e R s m args below meth c nL k n Q q L (.float (FP.l2f x) :: st)) : KW E T V p l e R s m args below meth c nL k n Q pc L (.long x :: st) := by
  subst hq
  intro H ls locs hR hS hl
  exact lv_l2f C.x C.b hd (K H ls locs hR hS hl)
theorem k_f2i (pc q : Nat) (C : Cx E p s m args meth c own cc nL ret) {x : UInt32} (hd : decode cc pc = .ok (.f2i, 1)) (hq : pc + 1 = q)  (K : KW E T V p l e R s m args below meth c nL k n Q q L (.int (FP.f2i x) :: st)) : KW E T V p l e R s m args below meth c nL k n Q pc L (.float x :: st) := by
  subst hq
  intro H ls locs hR hS hl
  exact lv_f2i C.x C.b hd (K H ls locs hR hS hl)
theorem k_i2c (pc q : Nat) (C : Cx E p s m args meth c own cc nL ret) {x : Int32} (hd : decode cc pc = .ok (.i2c, 1)) (hq : pc + 1 = q)  (K : KW E T V p l e R s m args below meth c nL k n Q q L (.int (x.toUInt32 % 65536).toInt32 :: st)) : KW E T V p l e R s m args below meth c nL k n Q pc L (.int x :: st) := by
  subst hq
  intro H ls locs hR hS hl
  exact lv_i2c C.x C.b hd rfl (K H ls locs hR hS hl)
theorem k_fdiv (pc q : Nat) (C : Cx E p s m args meth c own cc nL ret) {x y : UInt32} (hd : decode cc pc = .ok (.fdiv, 1)) (hq : pc + 1 = q) (hne : vf_n32 (FP.fdiv x y)) (K : KW E T V p l e R s m args below meth c nL k n Q q L (.float (FP.fdiv x y) :: st)) : KW E T V p l e R s m args below meth c nL k n Q pc L (.float y :: .float x :: st) := by
  subst hq
  intro H ls locs hR hS hl
  exact lv_fdiv C.x C.b hd hne (K H ls locs hR hS hl)
theorem k_fmul (pc q : Nat) (C : Cx E p s m args meth c own cc nL ret) {x y : UInt32} (hd : decode cc pc = .ok (.fmul, 1)) (hq : pc + 1 = q) (hne : vf_n32 (FP.fmul x y)) (K : KW E T V p l e R s m args below meth c nL k n Q q L (.float (FP.fmul x y) :: st)) : KW E T V p l e R s m args below meth c nL k n Q pc L (.float y :: .float x :: st) := by
  subst hq
  intro H ls locs hR hS hl
  exact lv_fmul C.x C.b hd hne (K H ls locs hR hS hl)
theorem k_fsub (pc q : Nat) (C : Cx E p s m args meth c own cc nL ret) {x y : UInt32} (hd : decode cc pc = .ok (.fsub, 1)) (hq : pc + 1 = q) (hne : vf_n32 (FP.fsub x y)) (K : KW E T V p l e R s m args below meth c nL k n Q q L (.float (FP.fsub x y) :: st)) : KW E T V p l e R s m args below meth c nL k n Q pc L (.float y :: .float x :: st) := by
  subst hq
  intro H ls locs hR hS hl
  exact lv_fsub C.x C.b hd hne (K H ls locs hR hS hl)
theorem k_fcmp (pc q : Nat) (C : Cx E p s m args meth c own cc nL ret) {x y : UInt32} {op : CmpOp} (hd : decode cc pc = .ok (.fcmp op, 1)) (hq : pc + 1 = q)  (K : KW E T V p l e R s m args below meth c nL k n Q q L (.int (Op.cmpValue (FP.fcmp x y) op) :: st)) : KW E T V p l e R s m args below meth c nL k n Q pc L (.float y :: .float x :: st) := by
  subst hq
  intro H ls locs hR hS hl
  exact lv_fcmp C.x C.b hd (K H ls locs hR hS hl)
theorem k_lcmp (pc q : Nat) (C : Cx E p s m args meth c own cc nL ret) {x y : Int64} (hd : decode cc pc = .ok (.lcmp, 1)) (hq : pc + 1 = q)  (K : KW E T V p l e R s m args below meth c nL k n Q q L (.int (lg_cmp x y) :: st)) : KW E T V p l e R s m args below meth c nL k n Q pc L (.long y :: .long x :: st) := by
  subst hq
  intro H ls locs hR hS hl
  exact W.lcmp C.x C.b hd (K H ls locs hR hS hl)
theorem k_dup (pc q : Nat) (C : Cx E p s m args meth c own cc nL ret) {v : Value} (hd : decode cc pc = .ok (.dup, 1)) (hq : pc + 1 = q) (hc : v.category = 1) (K : KW E T V p l e R s m args below meth c nL k n Q q L (v :: v :: st)) : KW E T V p l e R s m args below meth c nL k n Q pc L (v :: st) := by
  subst hq
  intro H ls locs hR hS hl
  exact lv_dup C.x C.b hd hc (K H ls locs hR hS hl)
theorem k_dup2 (pc q : Nat) (C : Cx E p s m args meth c own cc nL ret) {v w : Value} (hd : decode cc pc = .ok (.dup2, 1)) (hq : pc + 1 = q) (hc : v.category = 1) (hc2 : w.category = 1) (K : KW E T V p l e R s m args below meth c nL k n Q q L (v :: w :: v :: w :: st)) : KW E T V p l e R s m args below meth c nL k n Q pc L (v :: w :: st) := by
  subst hq
  intro H ls locs hR hS hl
  exact lv_dup2_11 C.x C.b hd hc hc2 (K H ls locs hR hS hl)
theorem k_iconst (pc q : Nat) (C : Cx E p s m args meth c own cc nL ret) {z : Int} {v : Int32} (hd : decode cc pc = .ok (.iconst z, 1)) (hq : pc + 1 = q) (hv : Int32.ofInt z = v) (K : KW E T V p l e R s m args below meth c nL k n Q q L (.int v :: st)) : KW E T V p l e R s m args below meth c nL k n Q pc L (st) := by
  subst hq
  intro H ls locs hR hS hl
  exact lv_iconst C.x C.b hd hv (K H ls locs hR hS hl)
theorem k_bipush (pc q : Nat) (C : Cx E p s m args meth c own cc nL ret) {z : Int} {v : Int32} (hd : decode cc pc = .ok (.bipush z, 2)) (hq : pc + 2 = q) (hv : (Int8.ofInt z).toInt32 = v) (K : KW E T V p l e R s m args below meth c nL k n Q q L (.int v :: st)) : KW E T V p l e R s m args below meth c nL k n Q pc L (st) := by
  subst hq
  intro H ls locs hR hS hl
  exact lv_bipush C.x C.b hd hv (K H ls locs hR hS hl)
theorem k_sipush (pc q : Nat) (C : Cx E p s m args meth c own cc nL ret) {z : Int} {v : Int32} (hd : decode cc pc = .ok (.sipush z, 3)) (hq : pc + 3 = q) (hv : (Int16.ofInt z).toInt32 = v) (K : KW E T V p l e R s m args below meth c nL k n Q q L (.int v :: st)) : KW E T V p l e R s m args below meth c nL k n Q pc L (st) := by
  subst hq
  intro H ls locs hR hS hl
  exact lv_sipush C.x C.b hd hv (K H ls locs hR hS hl)
theorem k_lconst (pc q : Nat) (C : Cx E p s m args meth c own cc nL ret) {z : Fin 2} {v : Int64} (hd : decode cc pc = .ok (.lconst z, 1)) (hq : pc + 1 = q) (hv : Int64.ofNat (z : Nat) = v) (K : KW E T V p l e R s m args below meth c nL k n Q q L (.long v :: st)) : KW E T V p l e R s m args below meth c nL k n Q pc L (st) := by
  subst hq
  intro H ls locs hR hS hl
  exact lv_lconst C.x C.b hd hv (K H ls locs hR hS hl)
theorem k_ldc (pc q : Nat) (C : Cx E p s m args meth c own cc nL ret) {ix : Nat} {v : Int32} (hd : decode cc pc = .ok (.ldc ix, 2)) (hq : pc + 2 = q) (hw : Cond.constant own ix v ∈ GW) (K : KW E T V p l e R s m args below meth c nL k n Q q L (.int v :: st)) : KW E T V p l e R s m args below meth c nL k n Q pc L (st) := by
  subst hq
  intro H ls locs hR hS hl
  exact lv_ldc C.x C.b C.ow (C.ts _ hw) hd (K H ls locs hR hS hl)
theorem k_ldcf (pc q : Nat) (C : Cx E p s m args meth c own cc nL ret) {ix : Nat} {v : UInt32} (hd : decode cc pc = .ok (.ldc ix, 2)) (hq : pc + 2 = q) (hw : Cond.constantFloat own ix v ∈ GW) (K : KW E T V p l e R s m args below meth c nL k n Q q L (.float v :: st)) : KW E T V p l e R s m args below meth c nL k n Q pc L (st) := by
  subst hq
  intro H ls locs hR hS hl
  exact lv_ldcf C.x C.b C.ow (C.ts _ hw) hd (K H ls locs hR hS hl)
theorem k_ldc2 (pc q : Nat) (C : Cx E p s m args meth c own cc nL ret) {ix : Nat} {v : Int64} (hd : decode cc pc = .ok (.ldc2_w ix, 3)) (hq : pc + 3 = q) (hw : Cond.constantLong own ix v ∈ GW) (K : KW E T V p l e R s m args below meth c nL k n Q q L (.long v :: st)) : KW E T V p l e R s m args below meth c nL k n Q pc L (st) := by
  subst hq
  intro H ls locs hR hS hl
  exact lv_ldc2 C.x C.b C.ow (C.ts _ hw) hd (K H ls locs hR hS hl)
theorem k_null (pc q : Nat) (C : Cx E p s m args meth c own cc nL ret)  (hd : decode cc pc = .ok (.aconst_null, 1)) (hq : pc + 1 = q)  (K : KW E T V p l e R s m args below meth c nL k n Q q L (.null :: st)) : KW E T V p l e R s m args below meth c nL k n Q pc L (st) := by
  subst hq
  intro H ls locs hR hS hl
  exact lv_null C.x C.b hd (K H ls locs hR hS hl)
theorem k_fconst1 (pc q : Nat) (C : Cx E p s m args meth c own cc nL ret)  (hd : decode cc pc = .ok (.fconst 1, 1)) (hq : pc + 1 = q)  (K : KW E T V p l e R s m args below meth c nL k n Q q L (.float FP.fconst1 :: st)) : KW E T V p l e R s m args below meth c nL k n Q pc L (st) := by
  subst hq
  intro H ls locs hR hS hl
  exact lv_fconst1 C.x C.b hd (K H ls locs hR hS hl)
theorem k_fconst2 (pc q : Nat) (C : Cx E p s m args meth c own cc nL ret)  (hd : decode cc pc = .ok (.fconst 2, 1)) (hq : pc + 1 = q)  (K : KW E T V p l e R s m args below meth c nL k n Q q L (.float FP.fconst2 :: st)) : KW E T V p l e R s m args below meth c nL k n Q pc L (st) := by
  subst hq
  intro H ls locs hR hS hl
  exact lv_fconst2 C.x C.b hd (K H ls locs hR hS hl)
theorem k_iload_n (pc q : Nat) (C : Cx E p s m args meth c own cc nL ret) {z : Fin 4} {x : Int32} (hd : decode cc pc = .ok (.iload_n z, 1)) (hq : pc + 1 = q) (i : Nat) (h : L[i]? = some ((z : Nat), .int x)) (K : KW E T V p l e R s m args below meth c nL k n Q q L (.int x :: st)) : KW E T V p l e R s m args below meth c nL k n Q pc L (st) := by
  subst hq
  intro H ls locs hR hS hl
  exact lv_iload_n C.x C.b hd rfl (lv_at hl i h) (K H ls locs hR hS hl)
theorem k_iload (pc q : Nat) (C : Cx E p s m args meth c own cc nL ret) {z : Nat} {x : Int32} (hd : decode cc pc = .ok (.iload z, 2)) (hq : pc + 2 = q) (i : Nat) (h : L[i]? = some (z, .int x)) (K : KW E T V p l e R s m args below meth c nL k n Q q L (.int x :: st)) : KW E T V p l e R s m args below meth c nL k n Q pc L (st) := by
  subst hq
  intro H ls locs hR hS hl
  exact lv_iload C.x C.b hd (lv_at hl i h) (K H ls locs hR hS hl)
theorem k_lload_n (pc q : Nat) (C : Cx E p s m args meth c own cc nL ret) {z : Fin 4} {x : Int64} (hd : decode cc pc = .ok (.lload_n z, 1)) (hq : pc + 1 = q) (i : Nat) (h : L[i]? = some ((z : Nat), .long x)) (K : KW E T V p l e R s m args below meth c nL k n Q q L (.long x :: st)) : KW E T V p l e R s m args below meth c nL k n Q pc L (st) := by
  subst hq
  intro H ls locs hR hS hl
  exact lv_lload_n C.x C.b hd rfl (lv_at hl i h) (K H ls locs hR hS hl)
theorem k_lload (pc q : Nat) (C : Cx E p s m args meth c own cc nL ret) {z : Nat} {x : Int64} (hd : decode cc pc = .ok (.lload z, 2)) (hq : pc + 2 = q) (i : Nat) (h : L[i]? = some (z, .long x)) (K : KW E T V p l e R s m args below meth c nL k n Q q L (.long x :: st)) : KW E T V p l e R s m args below meth c nL k n Q pc L (st) := by
  subst hq
  intro H ls locs hR hS hl
  exact lv_lload C.x C.b hd (lv_at hl i h) (K H ls locs hR hS hl)
theorem k_fload_n (pc q : Nat) (C : Cx E p s m args meth c own cc nL ret) {z : Fin 4} {x : UInt32} (hd : decode cc pc = .ok (.fload_n z, 1)) (hq : pc + 1 = q) (i : Nat) (h : L[i]? = some ((z : Nat), .float x)) (K : KW E T V p l e R s m args below meth c nL k n Q q L (.float x :: st)) : KW E T V p l e R s m args below meth c nL k n Q pc L (st) := by
  subst hq
  intro H ls locs hR hS hl
  exact lv_fload_n C.x C.b hd rfl (lv_at hl i h) (K H ls locs hR hS hl)
theorem k_aload_n (pc q : Nat) (C : Cx E p s m args meth c own cc nL ret) {z : Fin 4} {x : Nat} (hd : decode cc pc = .ok (.aload_n z, 1)) (hq : pc + 1 = q) (i : Nat) (h : L[i]? = some ((z : Nat), .ref x)) (K : KW E T V p l e R s m args below meth c nL k n Q q L (.ref x :: st)) : KW E T V p l e R s m args below meth c nL k n Q pc L (st) := by
  subst hq
  intro H ls locs hR hS hl
  exact lv_aload_n C.x C.b hd rfl (lv_at hl i h) (K H ls locs hR hS hl)
theorem k_aload (pc q : Nat) (C : Cx E p s m args meth c own cc nL ret) {z : Nat} {x : Nat} (hd : decode cc pc = .ok (.aload z, 2)) (hq : pc + 2 = q) (i : Nat) (h : L[i]? = some (z, .ref x)) (K : KW E T V p l e R s m args below meth c nL k n Q q L (.ref x :: st)) : KW E T V p l e R s m args below meth c nL k n Q pc L (st) := by
  subst hq
  intro H ls locs hR hS hl
  exact lv_aload C.x C.b hd (lv_at hl i h) (K H ls locs hR hS hl)
theorem k_aload_nq (pc q : Nat) (C : Cx E p s m args meth c own cc nL ret) {z : Fin 4} {r : Option Nat} (hd : decode cc pc = .ok (.aload_n z, 1)) (hq : pc + 1 = q) (i : Nat) (h : L[i]? = some ((z : Nat), va_rf r)) (K : KW E T V p l e R s m args below meth c nL k n Q q L (va_rf r :: st)) : KW E T V p l e R s m args below meth c nL k n Q pc L st := by
  subst hq
  intro H ls locs hR hS hl
  cases r with
  | none => exact lv_aload_nN C.x C.b hd rfl (lv_at hl i h) (K H ls locs hR hS hl)
  | some x => exact lv_aload_n C.x C.b hd rfl (lv_at hl i h) (K H ls locs hR hS hl)
theorem k_aloadq (pc q : Nat) (C : Cx E p s m args meth c own cc nL ret) {z : Nat} {r : Option Nat} (hd : decode cc pc = .ok (.aload z, 2)) (hq : pc + 2 = q) (i : Nat) (h : L[i]? = some (z, va_rf r)) (K : KW E T V p l e R s m args below meth c nL k n Q q L (va_rf r :: st)) : KW E T V p l e R s m args below meth c nL k n Q pc L st := by
  subst hq
  intro H ls locs hR hS hl
  cases r with
  | none => exact lv_aloadN C.x C.b hd (lv_at hl i h) (K H ls locs hR hS hl)
  | some x => exact lv_aload C.x C.b hd (lv_at hl i h) (K H ls locs hR hS hl)
theorem k_istore_n (pc q : Nat) (C : Cx E p s m args meth c own cc nL ret) {z : Fin 4} {x : Int32} (L' : List (Nat × Value)) (hd : decode cc pc = .ok (.istore_n z, 1)) (hq : pc + 1 = q) (hn : (z : Nat) < nL) (hL : ((z : Nat), Value.int x) :: L.filter (fun q => !(q.1 == (z : Nat)) && !(q.1 + 1 == (z : Nat) && q.2.category == 2)) = L') (K : KW E T V p l e R s m args below meth c nL k n Q q L' st) : KW E T V p l e R s m args below meth c nL k n Q pc L (.int x :: st) := by
  subst hq
  intro H ls locs hR hS hl
  exact lv_istore_n C.x C.b hd rfl hl hn hL (fun ls' hl' => K H ls' locs hR hS hl')
theorem k_istore (pc q : Nat) (C : Cx E p s m args meth c own cc nL ret) {z : Nat} {x : Int32} (L' : List (Nat × Value)) (hd : decode cc pc = .ok (.istore z, 2)) (hq : pc + 2 = q) (hn : z < nL) (hL : (z, Value.int x) :: L.filter (fun q => !(q.1 == z) && !(q.1 + 1 == z && q.2.category == 2)) = L') (K : KW E T V p l e R s m args below meth c nL k n Q q L' st) : KW E T V p l e R s m args below meth c nL k n Q pc L (.int x :: st) := by
  subst hq
  intro H ls locs hR hS hl
  exact lv_istore C.x C.b hd hl hn hL (fun ls' hl' => K H ls' locs hR hS hl')
theorem k_lstore_n (pc q : Nat) (C : Cx E p s m args meth c own cc nL ret) {z : Fin 4} {x : Int64} (L' : List (Nat × Value)) (hd : decode cc pc = .ok (.lstore_n z, 1)) (hq : pc + 1 = q) (hn : (z : Nat) + 1 < nL) (hL : ((z : Nat), Value.long x) :: L.filter (fun q => !(q.1 == (z : Nat)) && (!(q.1 == (z : Nat) + 1) && !(q.1 + 1 == (z : Nat) && q.2.category == 2))) = L') (K : KW E T V p l e R s m args below meth c nL k n Q q L' st) : KW E T V p l e R s m args below meth c nL k n Q pc L (.long x :: st) := by
  subst hq
  intro H ls locs hR hS hl
  exact lv_lstore_n C.x C.b hd rfl hl hn hL (fun ls' hl' => K H ls' locs hR hS hl')
theorem k_lstore (pc q : Nat) (C : Cx E p s m args meth c own cc nL ret) {z : Nat} {x : Int64} (L' : List (Nat × Value)) (hd : decode cc pc = .ok (.lstore z, 2)) (hq : pc + 2 = q) (hn : z + 1 < nL) (hL : (z, Value.long x) :: L.filter (fun q => !(q.1 == z) && (!(q.1 == z + 1) && !(q.1 + 1 == z && q.2.category == 2))) = L') (K : KW E T V p l e R s m args below meth c nL k n Q q L' st) : KW E T V p l e R s m args below meth c nL k n Q pc L (.long x :: st) := by
  subst hq
  intro H ls locs hR hS hl
  exact lv_lstore C.x C.b hd hl hn hL (fun ls' hl' => K H ls' locs hR hS hl')
theorem k_fstore_n (pc q : Nat) (C : Cx E p s m args meth c own cc nL ret) {z : Fin 4} {x : UInt32} (L' : List (Nat × Value)) (hd : decode cc pc = .ok (.fstore_n z, 1)) (hq : pc + 1 = q) (hn : (z : Nat) < nL) (hL : ((z : Nat), Value.float x) :: L.filter (fun q => !(q.1 == (z : Nat)) && !(q.1 + 1 == (z : Nat) && q.2.category == 2)) = L') (K : KW E T V p l e R s m args below meth c nL k n Q q L' st) : KW E T V p l e R s m args below meth c nL k n Q pc L (.float x :: st) := by
  subst hq
  intro H ls locs hR hS hl
  exact lv_fstore_n C.x C.b hd rfl hl hn hL (fun ls' hl' => K H ls' locs hR hS hl')
theorem k_astore_n (pc q : Nat) (C : Cx E p s m args meth c own cc nL ret) {z : Fin 4} {x : Nat} (L' : List (Nat × Value)) (hd : decode cc pc = .ok (.astore_n z, 1)) (hq : pc + 1 = q) (hn : (z : Nat) < nL) (hL : ((z : Nat), Value.ref x) :: L.filter (fun q => !(q.1 == (z : Nat)) && !(q.1 + 1 == (z : Nat) && q.2.category == 2)) = L') (K : KW E T V p l e R s m args below meth c nL k n Q q L' st) : KW E T V p l e R s m args below meth c nL k n Q pc L (.ref x :: st) := by
  subst hq
  intro H ls locs hR hS hl
  exact lv_astore_n C.x C.b hd rfl hl hn hL (fun ls' hl' => K H ls' locs hR hS hl')
theorem k_astore (pc q : Nat) (C : Cx E p s m args meth c own cc nL ret) {z : Nat} {x : Nat} (L' : List (Nat × Value)) (hd : decode cc pc = .ok (.astore z, 2)) (hq : pc + 2 = q) (hn : z < nL) (hL : (z, Value.ref x) :: L.filter (fun q => !(q.1 == z) && !(q.1 + 1 == z && q.2.category == 2)) = L') (K : KW E T V p l e R s m args below meth c nL k n Q q L' st) : KW E T V p l e R s m args below meth c nL k n Q pc L (.ref x :: st) := by
  subst hq
  intro H ls locs hR hS hl
  exact lv_astore C.x C.b hd hl hn hL (fun ls' hl' => K H ls' locs hR hS hl')
theorem k_astore_nq (pc q : Nat) (C : Cx E p s m args meth c own cc nL ret) {z : Fin 4} {r : Option Nat} (L' : List (Nat × Value)) (hd : decode cc pc = .ok (.astore_n z, 1)) (hq : pc + 1 = q) (hn : (z : Nat) < nL) (hL : ((z : Nat), va_rf r) :: L.filter (fun q => !(q.1 == (z : Nat)) && !(q.1 + 1 == (z : Nat) && q.2.category == 2)) = L') (K : KW E T V p l e R s m args below meth c nL k n Q q L' st) : KW E T V p l e R s m args below meth c nL k n Q pc L (va_rf r :: st) := by
  subst hq
  intro H ls locs hR hS hl
  cases r with
  | none => exact lv_astore_nN C.x C.b hd rfl hl hn hL (fun ls' hl' => K H ls' locs hR hS hl')
  | some x => exact lv_astore_n C.x C.b hd rfl hl hn hL (fun ls' hl' => K H ls' locs hR hS hl')
theorem k_astoreq (pc q : Nat) (C : Cx E p s m args meth c own cc nL ret) {z : Nat} {r : Option Nat} (L' : List (Nat × Value)) (hd : decode cc pc = .ok (.astore z, 2)) (hq : pc + 2 = q) (hn : z < nL) (hL : (z, va_rf r) :: L.filter (fun q => !(q.1 == z) && !(q.1 + 1 == z && q.2.category == 2)) = L') (K : KW E T V p l e R s m args below meth c nL k n Q q L' st) : KW E T V p l e R s m args below meth c nL k n Q pc L (va_rf r :: st) := by
  subst hq
  intro H ls locs hR hS hl
  cases r with
  | none => exact lv_astoreN C.x C.b hd hl hn hL (fun ls' hl' => K H ls' locs hR hS hl')
  | some x => exact lv_astore C.x C.b hd hl hn hL (fun ls' hl' => K H ls' locs hR hS hl')
theorem k_iinc (pc q : Nat) (C : Cx E p s m args meth c own cc nL ret) {z : Nat} {d : Int} {x : Int32} (L' : List (Nat × Value)) (v : Int32) (hd : decode cc pc = .ok (.iinc z d, 3)) (hq : pc + 3 = q) (i : Nat) (h : L[i]? = some (z, .int x)) (hv : x + Int32.ofInt d = v) (hn : z < nL) (hL : (z, Value.int v) :: L.filter (fun q => !(q.1 == z) && !(q.1 + 1 == z && q.2.category == 2)) = L') (K : KW E T V p l e R s m args below meth c nL k n Q q L' st) : KW E T V p l e R s m args below meth c nL k n Q pc L st := by
  subst hq
  intro H ls locs hR hS hl
  exact lv_iinc C.x C.b hd hl (k := i) h hv hn hL (fun ls' hl' => K H ls' locs hR hS hl')
theorem k_if_eq (pc t q : Nat) (C : Cx E p s m args meth c own cc nL ret) {x : Int32} {off : Int} (hd : decode cc pc = .ok (.ifCond .eq off, 3)) (ht : (pc : Int) + off = (t : Int)) (hq : pc + 3 = q) (kt : x = 0 → KW E T V p l e R s m args below meth c nL k n Q t L st) (kf : ¬ x = 0 → KW E T V p l e R s m args below meth c nL k n Q q L st) : KW E T V p l e R s m args below meth c nL k n Q pc L (.int x :: st) := by
  subst hq
  intro H ls locs hR hS hl
  exact lv_if_eq C.x C.b hd ht (fun h => kt h H ls locs hR hS hl) (fun h => kf (by first | exact h | exact Classical.not_not.mp h) H ls locs hR hS hl)
theorem k_icmp_eq (pc t q : Nat) (C : Cx E p s m args meth c own cc nL ret) {x y : Int32} {off : Int} (hd : decode cc pc = .ok (.if_icmp .eq off, 3)) (ht : (pc : Int) + off = (t : Int)) (hq : pc + 3 = q) (kt : x = y → KW E T V p l e R s m args below meth c nL k n Q t L st) (kf : ¬ x = y → KW E T V p l e R s m args below meth c nL k n Q q L st) : KW E T V p l e R s m args below meth c nL k n Q pc L (.int y :: .int x :: st) := by
  subst hq
  intro H ls locs hR hS hl
  exact lv_icmp_eq C.x C.b hd ht (fun h => kt h H ls locs hR hS hl) (fun h => kf (by first | exact h | exact Classical.not_not.mp h) H ls locs hR hS hl)
theorem k_if_ne (pc t q : Nat) (C : Cx E p s m args meth c own cc nL ret) {x : Int32} {off : Int} (hd : decode cc pc = .ok (.ifCond .ne off, 3)) (ht : (pc : Int) + off = (t : Int)) (hq : pc + 3 = q) (kt : ¬ x = 0 → KW E T V p l e R s m args below meth c nL k n Q t L st) (kf : x = 0 → KW E T V p l e R s m args below meth c nL k n Q q L st) : KW E T V p l e R s m args below meth c nL k n Q pc L (.int x :: st) := by
  subst hq
  intro H ls locs hR hS hl
  exact lv_if_ne C.x C.b hd ht (fun h => kt h H ls locs hR hS hl) (fun h => kf (by first | exact h | exact Classical.not_not.mp h) H ls locs hR hS hl)
theorem k_icmp_ne (pc t q : Nat) (C : Cx E p s m args meth c own cc nL ret) {x y : Int32} {off : Int} (hd : decode cc pc = .ok (.if_icmp .ne off, 3)) (ht : (pc : Int) + off = (t : Int)) (hq : pc + 3 = q) (kt : ¬ x = y → KW E T V p l e R s m args below meth c nL k n Q t L st) (kf : x = y → KW E T V p l e R s m args below meth c nL k n Q q L st) : KW E T V p l e R s m args below meth c nL k n Q pc L (.int y :: .int x :: st) := by
  subst hq
  intro H ls locs hR hS hl
  exact lv_icmp_ne C.x C.b hd ht (fun h => kt h H ls locs hR hS hl) (fun h => kf (by first | exact h | exact Classical.not_not.mp h) H ls locs hR hS hl)
theorem k_if_lt (pc t q : Nat) (C : Cx E p s m args meth c own cc nL ret) {x : Int32} {off : Int} (hd : decode cc pc = .ok (.ifCond .lt off, 3)) (ht : (pc : Int) + off = (t : Int)) (hq : pc + 3 = q) (kt : x < 0 → KW E T V p l e R s m args below meth c nL k n Q t L st) (kf : ¬ x < 0 → KW E T V p l e R s m args below meth c nL k n Q q L st) : KW E T V p l e R s m args below meth c nL k n Q pc L (.int x :: st) := by
  subst hq
  intro H ls locs hR hS hl
  exact lv_if_lt C.x C.b hd ht (fun h => kt h H ls locs hR hS hl) (fun h => kf (by first | exact h | exact Classical.not_not.mp h) H ls locs hR hS hl)
theorem k_icmp_lt (pc t q : Nat) (C : Cx E p s m args meth c own cc nL ret) {x y : Int32} {off : Int} (hd : decode cc pc = .ok (.if_icmp .lt off, 3)) (ht : (pc : Int) + off = (t : Int)) (hq : pc + 3 = q) (kt : x < y → KW E T V p l e R s m args below meth c nL k n Q t L st) (kf : ¬ x < y → KW E T V p l e R s m args below meth c nL k n Q q L st) : KW E T V p l e R s m args below meth c nL k n Q pc L (.int y :: .int x :: st) := by
  subst hq
  intro H ls locs hR hS hl
  exact lv_icmp_lt C.x C.b hd ht (fun h => kt h H ls locs hR hS hl) (fun h => kf (by first | exact h | exact Classical.not_not.mp h) H ls locs hR hS hl)
theorem k_if_ge (pc t q : Nat) (C : Cx E p s m args meth c own cc nL ret) {x : Int32} {off : Int} (hd : decode cc pc = .ok (.ifCond .ge off, 3)) (ht : (pc : Int) + off = (t : Int)) (hq : pc + 3 = q) (kt : 0 ≤ x → KW E T V p l e R s m args below meth c nL k n Q t L st) (kf : ¬ 0 ≤ x → KW E T V p l e R s m args below meth c nL k n Q q L st) : KW E T V p l e R s m args below meth c nL k n Q pc L (.int x :: st) := by
  subst hq
  intro H ls locs hR hS hl
  exact lv_if_ge C.x C.b hd ht (fun h => kt h H ls locs hR hS hl) (fun h => kf (by first | exact h | exact Classical.not_not.mp h) H ls locs hR hS hl)
theorem k_icmp_ge (pc t q : Nat) (C : Cx E p s m args meth c own cc nL ret) {x y : Int32} {off : Int} (hd : decode cc pc = .ok (.if_icmp .ge off, 3)) (ht : (pc : Int) + off = (t : Int)) (hq : pc + 3 = q) (kt : y ≤ x → KW E T V p l e R s m args below meth c nL k n Q t L st) (kf : ¬ y ≤ x → KW E T V p l e R s m args below meth c nL k n Q q L st) : KW E T V p l e R s m args below meth c nL k n Q pc L (.int y :: .int x :: st) := by
  subst hq
  intro H ls locs hR hS hl
  exact lv_icmp_ge C.x C.b hd ht (fun h => kt h H ls locs hR hS hl) (fun h => kf (by first | exact h | exact Classical.not_not.mp h) H ls locs hR hS hl)
theorem k_if_gt (pc t q : Nat) (C : Cx E p s m args meth c own cc nL ret) {x : Int32} {off : Int} (hd : decode cc pc = .ok (.ifCond .gt off, 3)) (ht : (pc : Int) + off = (t : Int)) (hq : pc + 3 = q) (kt : 0 < x → KW E T V p l e R s m args below meth c nL k n Q t L st) (kf : ¬ 0 < x → KW E T V p l e R s m args below meth c nL k n Q q L st) : KW E T V p l e R s m args below meth c nL k n Q pc L (.int x :: st) := by
  subst hq
  intro H ls locs hR hS hl
  exact lv_if_gt C.x C.b hd ht (fun h => kt h H ls locs hR hS hl) (fun h => kf (by first | exact h | exact Classical.not_not.mp h) H ls locs hR hS hl)
theorem k_icmp_gt (pc t q : Nat) (C : Cx E p s m args meth c own cc nL ret) {x y : Int32} {off : Int} (hd : decode cc pc = .ok (.if_icmp .gt off, 3)) (ht : (pc : Int) + off = (t : Int)) (hq : pc + 3 = q) (kt : y < x → KW E T V p l e R s m args below meth c nL k n Q t L st) (kf : ¬ y < x → KW E T V p l e R s m args below meth c nL k n Q q L st) : KW E T V p l e R s m args below meth c nL k n Q pc L (.int y :: .int x :: st) := by
  subst hq
  intro H ls locs hR hS hl
  exact lv_icmp_gt C.x C.b hd ht (fun h => kt h H ls locs hR hS hl) (fun h => kf (by first | exact h | exact Classical.not_not.mp h) H ls locs hR hS hl)
theorem k_if_le (pc t q : Nat) (C : Cx E p s m args meth c own cc nL ret) {x : Int32} {off : Int} (hd : decode cc pc = .ok (.ifCond .le off, 3)) (ht : (pc : Int) + off = (t : Int)) (hq : pc + 3 = q) (kt : x ≤ 0 → KW E T V p l e R s m args below meth c nL k n Q t L st) (kf : ¬ x ≤ 0 → KW E T V p l e R s m args below meth c nL k n Q q L st) : KW E T V p l e R s m args below meth c nL k n Q pc L (.int x :: st) := by
  subst hq
  intro H ls locs hR hS hl
  exact lv_if_le C.x C.b hd ht (fun h => kt h H ls locs hR hS hl) (fun h => kf (by first | exact h | exact Classical.not_not.mp h) H ls locs hR hS hl)
theorem k_icmp_le (pc t q : Nat) (C : Cx E p s m args meth c own cc nL ret) {x y : Int32} {off : Int} (hd : decode cc pc = .ok (.if_icmp .le off, 3)) (ht : (pc : Int) + off = (t : Int)) (hq : pc + 3 = q) (kt : x ≤ y → KW E T V p l e R s m args below meth c nL k n Q t L st) (kf : ¬ x ≤ y → KW E T V p l e R s m args below meth c nL k n Q q L st) : KW E T V p l e R s m args below meth c nL k n Q pc L (.int y :: .int x :: st) := by
  subst hq
  intro H ls locs hR hS hl
  exact lv_icmp_le C.x C.b hd ht (fun h => kt h H ls locs hR hS hl) (fun h => kf (by first | exact h | exact Classical.not_not.mp h) H ls locs hR hS hl)
theorem k_goto (pc t : Nat) (C : Cx E p s m args meth c own cc nL ret) {off : Int} (hd : decode cc pc = .ok (.goto off, 3)) (ht : (pc : Int) + off = (t : Int)) (K : KW E T V p l e R s m args below meth c nL k n Q t L st) : KW E T V p l e R s m args below meth c nL k n Q pc L st := fun H ls locs hR hS hl => lv_goto C.x C.b hd ht (K H ls locs hR hS hl)
theorem k_ifnull (pc t q : Nat) (C : Cx E p s m args meth c own cc nL ret) {r : Option Nat} {off : Int} (hd : decode cc pc = .ok (.ifnull off, 3)) (ht : (pc : Int) + off = (t : Int)) (hq : pc + 3 = q) (kt : r = none → KW E T V p l e R s m args below meth c nL k n Q t L st) (kf : ∀ a : Nat, r = some a → KW E T V p l e R s m args below meth c nL k n Q q L st) : KW E T V p l e R s m args below meth c nL k n Q pc L (va_rf r :: st) := by
  subst hq
  intro H ls locs hR hS hl
  cases r with
  | none => exact lv_ifnullN C.x C.b hd ht (kt rfl H ls locs hR hS hl)
  | some a => exact lv_ifnull C.x C.b hd (kf a rfl H ls locs hR hS hl)
theorem k_ifnonnull (pc t q : Nat) (C : Cx E p s m args meth c own cc nL ret) {r : Option Nat} {off : Int} (hd : decode cc pc = .ok (.ifnonnull off, 3)) (ht : (pc : Int) + off = (t : Int)) (hq : pc + 3 = q) (kt : ∀ a : Nat, r = some a → KW E T V p l e R s m args below meth c nL k n Q t L st) (kf : r = none → KW E T V p l e R s m args below meth c nL k n Q q L st) : KW E T V p l e R s m args below meth c nL k n Q pc L (va_rf r :: st) := by
  subst hq
  intro H ls locs hR hS hl
  cases r with
  | none => exact lv_ifnonnullN C.x C.b hd (kf rfl H ls locs hR hS hl)
  | some a => exact lv_ifnonnull C.x C.b hd ht (kt a rfl H ls locs hR hS hl)
theorem k_tabIn (pc t : Nat) (C : Cx E p s m args meth c own cc nL ret) {dflt lo hi : Int} {offs : Array Int} {len : Nat} {x : Int32} {off : Int} (hd : decode cc pc = .ok (.tableswitch dflt lo hi offs, len)) (h1 : ¬ x.toInt < lo) (h2 : ¬ hi < x.toInt) (ho : offs[(x.toInt - lo).toNat]? = some off) (ht : (pc : Int) + off = (t : Int)) (K : KW E T V p l e R s m args below meth c nL k n Q t L st) : KW E T V p l e R s m args below meth c nL k n Q pc L (.int x :: st) := fun H ls locs hR hS hl => lv_tableIn C.x C.b hd h1 h2 ho ht (K H ls locs hR hS hl)
theorem k_tabOut (pc t : Nat) (C : Cx E p s m args meth c own cc nL ret) {dflt lo hi : Int} {offs : Array Int} {len : Nat} {x : Int32} (hd : decode cc pc = .ok (.tableswitch dflt lo hi offs, len)) (h : x.toInt < lo ∨ hi < x.toInt) (ht : (pc : Int) + dflt = (t : Int)) (K : KW E T V p l e R s m args below meth c nL k n Q t L st) : KW E T V p l e R s m args below meth c nL k n Q pc L (.int x :: st) := fun H ls locs hR hS hl => lv_tableOut C.x C.b hd h ht (K H ls locs hR hS hl)
theorem k_perm {pc : Nat} (ks : List Nat) {L' : List (Nat × Value)} (hL : lv_pick L ks = L') (K : KW E T V p l e R s m args below meth c nL k n Q pc L' st) : KW E T V p l e R s m args below meth c nL k n Q pc L st := fun H ls locs hR hS hl => K H ls locs hR hS (lv_sub hl ks hL)
theorem k_get (pc q : Nat) (C : Cx E p s m args meth c own cc nL ret) {ci N ix a : Nat} {Cn : String} {Tt : u_T} {ty : Nat → FieldType} {v : Value} (hd : decode cc pc = .ok (.getfield ix, 3)) (hq : pc + 3 = q) (I : CI ci Cn Tt N ty) (j : Nat) (hw : Cond.fieldLink own ix (Tt j).1 (Tt j).2.1 (Tt j).2.2.1 ∈ GW) (ho : tO T a ci) (hj : j < N) (hv : (flds T V a ci)[j]? = some v) (K : KW E T V p l e R s m args below meth c nL k n Q q L (v :: st)) : KW E T V p l e R s m args below meth c nL k n Q pc L (.ref a :: st) := by
  subst hq
  intro H ls locs hR hS hl
  obtain ⟨h1, h2⟩ := hR.2 a _ ho
  have hP : va_P E.1 classes [(a, .inr (ci, flds T V a ci))] H := by
    intro i q hi
    cases i with
    | zero => cases hi; exact h2
    | succ i => cases hi
  exact va_get C.x C.b C.ts I.2.1 C.ow C.K hP 0 rfl I.1 j hj (C.ts _ hw) (fun _ h => h) hv hd (K H ls locs hR hS hl)
theorem k_getF (pc q : Nat) (C : Cx E p s m args meth c own cc nL ret) {ci N ix a b : Nat} {Cn : String} {Tt : u_T} {ty : Nat → FieldType} (hd : decode cc pc = .ok (.getfield ix, 3)) (hq : pc + 3 = q) (I : CI ci Cn Tt N ty) (j : Nat) (hw : Cond.fieldLink own ix (Tt j).1 (Tt j).2.1 (Tt j).2.2.1 ∈ GW) (ho : tO T a ci) (hj : j < N) (hf : tF T a j b) (hv : (flds T V a ci)[j]? = some (va_rf (T.2.2 a j))) (K : KW E T V p l e R s m args below meth c nL k n Q q L (.ref b :: st)) : KW E T V p l e R s m args below meth c nL k n Q pc L (.ref a :: st) := by
  refine k_get pc q C hd hq I j hw ho hj (v := .ref b) ?_ K
  rw [hv, show T.2.2 a j = some b from hf]
  rfl
theorem k_put (pc q : Nat) (C : Cx E p s m args meth c own cc nL ret) {ci N ix a : Nat} {Cn : String} {Tt : u_T} {ty0 : Nat → FieldType} {v : Value} {V' : gV} (hd : decode cc pc = .ok (.putfield ix, 3)) (hq : pc + 3 = q) (I : CI ci Cn Tt N ty0) (j : Nat) (hw : Cond.fieldLink own ix (Tt j).1 (Tt j).2.1 (Tt j).2.2.1 ∈ GW) (ho : tO T a ci) (hj : j < N) (hfin : (Tt j).2.2.2 = false) (hn : narrow (ty0 j) v = v) (hfit : fits (ty0 j) v = true)
    (hoff : ∀ b : Nat, b ≠ a → V'.1 b = V.1 b ∧ V'.2.1 b = V.2.1 b ∧ V'.2.2 b = V.2.2 b) (hset : flds T V' a ci = (flds T V a ci).set j v) (K : KW E T V' p l e R s m args below meth c nL k n Q q L st) : KW E T V p l e R s m args below meth c nL k n Q pc L (v :: .ref a :: st) := by
  subst hq
  intro H ls locs hR hS hl
  obtain ⟨h1, h2⟩ := hR.2 a _ ho
  have hap := va_apart (own := own) C.ts I.2.1 ty0 I.2.2.1 I.2.2.2.1 C.K I.1
  obtain ⟨r, g1, cell, q1, q2, q3, q4⟩ := h2
  have hr : r = (Cn, Tt, N) := Option.some.inj (g1.symm.trans I.1)
  subst hr
  obtain ⟨hSl, hfc, kC, hkC, hkind⟩ := C.K.1 ci _ I.1
  obtain ⟨cf, kf, fi, f, hi, hsl⟩ := hSl j hj
  have hlay := C.ts _ (I.2.1 _ (u_in_lay hj))
  unfold u_lay at hlay
  rw [if_neg (by rw [hfin]; decide)] at hlay
  have hst := (u_facts hfc hkC (u_lays C.ts I.2.1 hj) hi).1
  have h6 := u_store hfc hkC hkind hlay hi (I.2.2.1 j hj) hn hfit
  refine W.putK C.x C.b (f := f) ⟨C.ow, C.ts _ hw, ⟨_, _, _, hi⟩, hst⟩ (by rw [q2]; exact h6) q1 q3 (by rw [hsl]; exact k2_hasslot (q4 j hj)) rfl rfl hd fun H' e1 e2 e3 => ?_
  rw [hsl] at e1 ⊢
  refine K H' ls _ (hR.put e2 e3 hoff fun k2 hk2 => ?_) (hS.put e2 e3 h1) hl
  have hk3 : k2 = .inr ci := Option.some.inj (hk2.symm.trans ho)
  subst hk3
  show ∃ r : vw_C, classes[ci]? = some r ∧ t_OB a (E.1.1 ci) r.2.2 (E.1.2 ci) H' (vp_V (flds T V' a ci))
  rw [hset]
  exact ⟨_, I.1, t_OB.to (V := updV (vp_V (flds T V a ci)) j v) ⟨_, e1, q2, q3, t_set q4 hap hj v⟩ (fun i _ => vp_updV_set (by rw [I.2.2.2.2]; exact hj) v i)⟩
theorem k_getN (pc q : Nat) (C : Cx E p s m args meth c own cc nL ret) {ci N ix a : Nat} {Cn : String} {Tt : u_T} {ty : Nat → FieldType} {v : Value} (hd : decode cc pc = .ok (.getfield ix, 3)) (hq : pc + 3 = q) (I : CI ci Cn Tt N ty) (j : Nat) (hw : Cond.fieldLinkNest own ix (Tt j).1 (Tt j).2.1 (Tt j).2.2.1 "PantographArm" ∈ nws) (ho : tO T a ci) (hj : j < N) (hv : (flds T V a ci)[j]? = some v) (K : KW E T V p l e R s m args below meth c nL k n Q q L (v :: st)) : KW E T V p l e R s m args below meth c nL k n Q pc L (.ref a :: st) := by
  subst hq
  intro H ls locs hR hS hl
  obtain ⟨h1, h2⟩ := hR.2 a _ ho
  have hP : va_P E.1 classes [(a, .inr (ci, flds T V a ci))] H := by
    intro i q hi
    cases i with
    | zero => cases hi; exact h2
    | succ i => cases hi
  exact va_getN C.x C.b C.ts I.2.1 C.ow C.K hP 0 rfl I.1 j hj (va_Nw.use rfl (C.nw _ hw)) (fun _ h => h) hv hd (K H ls locs hR hS hl)
theorem k_putN (pc q : Nat) (C : Cx E p s m args meth c own cc nL ret) {ci N ix a : Nat} {Cn : String} {Tt : u_T} {ty0 : Nat → FieldType} {v : Value} {V' : gV} (hd : decode cc pc = .ok (.putfield ix, 3)) (hq : pc + 3 = q) (I : CI ci Cn Tt N ty0) (j : Nat) (hw : Cond.fieldLinkNest own ix (Tt j).1 (Tt j).2.1 (Tt j).2.2.1 "PantographArm" ∈ nws) (ho : tO T a ci) (hj : j < N) (hfin : (Tt j).2.2.2 = false) (hn : narrow (ty0 j) v = v) (hfit : fits (ty0 j) v = true)
    (hoff : ∀ b : Nat, b ≠ a → V'.1 b = V.1 b ∧ V'.2.1 b = V.2.1 b ∧ V'.2.2 b = V.2.2 b) (hset : flds T V' a ci = (flds T V a ci).set j v) (K : KW E T V' p l e R s m args below meth c nL k n Q q L st) : KW E T V p l e R s m args below meth c nL k n Q pc L (v :: .ref a :: st) := by
  subst hq
  intro H ls locs hR hS hl
  obtain ⟨h1, h2⟩ := hR.2 a _ ho
  have hap := va_apart (own := own) C.ts I.2.1 ty0 I.2.2.1 I.2.2.2.1 C.K I.1
  obtain ⟨r, g1, cell, q1, q2, q3, q4⟩ := h2
  have hr : r = (Cn, Tt, N) := Option.some.inj (g1.symm.trans I.1)
  subst hr
  obtain ⟨hSl, hfc, kC, hkC, hkind⟩ := C.K.1 ci _ I.1
  obtain ⟨cf, kf, fi, f, hi, hsl⟩ := hSl j hj
  have hlay := C.ts _ (I.2.1 _ (u_in_lay hj))
  unfold u_lay at hlay
  rw [if_neg (by rw [hfin]; decide)] at hlay
  have hst := (u_facts hfc hkC (u_lays C.ts I.2.1 hj) hi).1
  have h6 := u_store hfc hkC hkind hlay hi (I.2.2.1 j hj) hn hfit
  refine va_WputK C.x C.b (f := f) C.ow (va_Nw.use rfl (C.nw _ hw)) hi hst (by rw [q2]; exact h6) q1 q3 (by rw [hsl]; exact k2_hasslot (q4 j hj)) rfl rfl hd fun H' e1 e2 e3 => ?_
  rw [hsl] at e1 ⊢
  refine K H' ls _ (hR.put e2 e3 hoff fun k2 hk2 => ?_) (hS.put e2 e3 h1) hl
  have hk3 : k2 = .inr ci := Option.some.inj (hk2.symm.trans ho)
  subst hk3
  show ∃ r : vw_C, classes[ci]? = some r ∧ t_OB a (E.1.1 ci) r.2.2 (E.1.2 ci) H' (vp_V (flds T V' a ci))
  rw [hset]
  exact ⟨_, I.1, t_OB.to (V := updV (vp_V (flds T V a ci)) j v) ⟨_, e1, q2, q3, t_set q4 hap hj v⟩ (fun i _ => vp_updV_set (by rw [I.2.2.2.2]; exact hj) v i)⟩
theorem tyl_at {E : gE} (t : Nat) (ht : t < 6) : (tyl E)[t]? = some (E.2.1 t, aty t) := by
  rcases (show t = 0 ∨ t = 1 ∨ t = 2 ∨ t = 3 ∨ t = 4 ∨ t = 5 by omega) with rfl | rfl | rfl | rfl | rfl | rfl <;> rfl
theorem Rep.one {E : gE} {T : gT} {V : gV} {H : Heap} {a : Nat} {x : kd} (hR : Rep E T V H) (ho : T.2.1 a = some x) : va_P E.1 classes [(a, ent E T V a x)] H := by
  intro i q hi
  cases i with
  | zero => cases hi; exact (hR.2 a _ ho).2
  | succ i => cases hi
theorem k_alen (pc q : Nat) (C : Cx E p s m args meth c own cc nL ret) {a t N : Nat} {v : Int32} (hd : decode cc pc = .ok (.arraylength, 1)) (hq : pc + 1 = q) (ht : tA T a t N) (h6 : t < 6) (hv : Int32.ofNat N = v) (K : KW E T V p l e R s m args below meth c nL k n Q q L (.int v :: st)) : KW E T V p l e R s m args below meth c nL k n Q pc L (.ref a :: st) := by
  subst hq
  intro H ls locs hR hS hl
  exact va_alen C.x C.b C.K (hR.one ht) 0 t rfl (tyl_at t h6) hv hd (K H ls locs hR hS hl)
theorem k_iald (pc q : Nat) (C : Cx E p s m args meth c own cc nL ret) {a N : Nat} {i : Int32} (hd : decode cc pc = .ok (.iaload, 1)) (hq : pc + 1 = q) (ht : tA T a 0 N) (hin : vp_in i N) (K : KW E T V p l e R s m args below meth c nL k n Q q L (.int (V.1 a i.toNatClampNeg) :: st)) : KW E T V p l e R s m args below meth c nL k n Q pc L (.int i :: .ref a :: st) := by
  subst hq
  intro H ls locs hR hS hl
  exact va_iald C.x C.b C.K (hR.one ht) 0 0 rfl rfl hin hd (K H ls locs hR hS hl)
theorem k_cald (pc q : Nat) (C : Cx E p s m args meth c own cc nL ret) {a N : Nat} {i : Int32} (hd : decode cc pc = .ok (.caload, 1)) (hq : pc + 1 = q) (ht : tA T a 4 N) (hin : vp_in i N) (K : KW E T V p l e R s m args below meth c nL k n Q q L (.int (V.1 a i.toNatClampNeg) :: st)) : KW E T V p l e R s m args below meth c nL k n Q pc L (.int i :: .ref a :: st) := by
  subst hq
  intro H ls locs hR hS hl
  exact va_cald C.x C.b C.K (hR.one ht) 0 4 rfl rfl hin hd (K H ls locs hR hS hl)
theorem k_zald (pc q : Nat) (C : Cx E p s m args meth c own cc nL ret) {a N : Nat} {i : Int32} (hd : decode cc pc = .ok (.baload, 1)) (hq : pc + 1 = q) (ht : tA T a 5 N) (hin : vp_in i N) (K : KW E T V p l e R s m args below meth c nL k n Q q L (.int (V.1 a i.toNatClampNeg) :: st)) : KW E T V p l e R s m args below meth c nL k n Q pc L (.int i :: .ref a :: st) := by
  subst hq
  intro H ls locs hR hS hl
  exact va_zald C.x C.b C.K (hR.one ht) 0 5 rfl rfl hin hd (K H ls locs hR hS hl)
theorem k_lald (pc q : Nat) (C : Cx E p s m args meth c own cc nL ret) {a N : Nat} {i : Int32} (hd : decode cc pc = .ok (.laload, 1)) (hq : pc + 1 = q) (ht : tA T a 1 N) (hin : vp_in i N) (K : KW E T V p l e R s m args below meth c nL k n Q q L (.long (V.2.1 a i.toNatClampNeg) :: st)) : KW E T V p l e R s m args below meth c nL k n Q pc L (.int i :: .ref a :: st) := by
  subst hq
  intro H ls locs hR hS hl
  exact va_lald C.x C.b C.K (hR.one ht) 0 1 rfl rfl hin hd (K H ls locs hR hS hl)
theorem k_aald2 (pc q : Nat) (C : Cx E p s m args meth c own cc nL ret) {a N : Nat} {i : Int32} (hd : decode cc pc = .ok (.aaload, 1)) (hq : pc + 1 = q) (ht : tA T a 2 N) (hin : vp_in i N) (K : KW E T V p l e R s m args below meth c nL k n Q q L (va_rf (V.2.2 a i.toNatClampNeg) :: st)) : KW E T V p l e R s m args below meth c nL k n Q pc L (.int i :: .ref a :: st) := by
  subst hq
  intro H ls locs hR hS hl
  exact va_aldq C.x C.b C.K (hR.one ht) 0 2 rfl rfl hin hd (K H ls locs hR hS hl)
theorem k_aald3 (pc q : Nat) (C : Cx E p s m args meth c own cc nL ret) {a N : Nat} {i : Int32} (hd : decode cc pc = .ok (.aaload, 1)) (hq : pc + 1 = q) (ht : tA T a 3 N) (hin : vp_in i N) (K : KW E T V p l e R s m args below meth c nL k n Q q L (va_rf (V.2.2 a i.toNatClampNeg) :: st)) : KW E T V p l e R s m args below meth c nL k n Q pc L (.int i :: .ref a :: st) := by
  subst hq
  intro H ls locs hR hS hl
  exact va_aldq C.x C.b C.K (hR.one ht) 0 3 rfl rfl hin hd (K H ls locs hR hS hl)
theorem k_iast (pc q : Nat) (C : Cx E p s m args meth c own cc nL ret) {a N : Nat} {i : Int32} {x : Int32}  (hd : decode cc pc = .ok (.iastore, 1)) (hq : pc + 1 = q) (ht : tA T a 0 N) (hin : vp_in i N) (K : KW E T (wI V a i.toNatClampNeg x) p l e R s m args below meth c nL k n Q q L st) : KW E T V p l e R s m args below meth c nL k n Q pc L (.int x :: .int i :: .ref a :: st) := by
  subst hq
  intro H ls locs hR hS hl
  have hlt : i.toNatClampNeg < N := Nat.not_le.mp fun z => hin (Or.inr z)
  have hP := hR.one ht
  refine W.iast C.x C.b (hP 0 _ rfl) ((C.K.2 0 _ rfl).1 N (fun j => .int (V.1 a j))) (fun z => by cases z) (by show ¬ (i < 0 ∨ (arrV _ _ _).slots.size ≤ _); rw [arrV_size]; exact hin) rfl rfl hd fun H1 e z oq => ?_
  refine K H1 ls _ (hR.put z oq wI_off fun k2 hk2 => ?_) (hS.put z oq (hR.2 a _ ht).1) hl
  have hk3 : k2 = .inl (0, N) := Option.some.inj (hk2.symm.trans ht)
  subst hk3
  show H1[a]? = some (vp_cell _ _)
  rw [e]
  simp only [ent, arrv, vp_cell_i]
  rw [arrV_store]
  congr 2
  funext j
  by_cases hj : j = i.toNatClampNeg
  · subst hj
    simp [updV, wI, upd]
  · simp [updV, wI, upd, hj]
theorem k_last (pc q : Nat) (C : Cx E p s m args meth c own cc nL ret) {a N : Nat} {i : Int32} {x : Int64}  (hd : decode cc pc = .ok (.lastore, 1)) (hq : pc + 1 = q) (ht : tA T a 1 N) (hin : vp_in i N) (K : KW E T (wL V a i.toNatClampNeg x) p l e R s m args below meth c nL k n Q q L st) : KW E T V p l e R s m args below meth c nL k n Q pc L (.long x :: .int i :: .ref a :: st) := by
  subst hq
  intro H ls locs hR hS hl
  have hlt : i.toNatClampNeg < N := Nat.not_le.mp fun z => hin (Or.inr z)
  have hP := hR.one ht
  refine W.last C.x C.b (hP 0 _ rfl) ((C.K.2 1 _ rfl).1 N (fun j => .long (V.2.1 a j))) (fun z => by cases z) (by show ¬ (i < 0 ∨ (arrV _ _ _).slots.size ≤ _); rw [arrV_size]; exact hin) rfl rfl hd fun H1 e z oq => ?_
  refine K H1 ls _ (hR.put z oq wL_off fun k2 hk2 => ?_) (hS.put z oq (hR.2 a _ ht).1) hl
  have hk3 : k2 = .inl (1, N) := Option.some.inj (hk2.symm.trans ht)
  subst hk3
  show H1[a]? = some (vp_cell _ _)
  rw [e]
  simp only [ent, arrv, vp_cell_l]
  rw [arrV_store]
  congr 2
  funext j
  by_cases hj : j = i.toNatClampNeg
  · subst hj
    simp [updV, wL, vp_updL]
  · simp [updV, wL, vp_updL, hj]
theorem k_cast (pc q : Nat) (C : Cx E p s m args meth c own cc nL ret) {a N : Nat} {i : Int32} {x : Int32}  (hd : decode cc pc = .ok (.castore, 1)) (hq : pc + 1 = q) (ht : tA T a 4 N) (hin : vp_in i N) (K : KW E T (wI V a i.toNatClampNeg (vp_nar .char x)) p l e R s m args below meth c nL k n Q q L st) : KW E T V p l e R s m args below meth c nL k n Q pc L (.int x :: .int i :: .ref a :: st) := by
  subst hq
  intro H ls locs hR hS hl
  have hlt : i.toNatClampNeg < N := Nat.not_le.mp fun z => hin (Or.inr z)
  have hP := hR.one ht
  refine W.cast C.x C.b (hP 0 _ rfl) ((C.K.2 4 _ rfl).1 N (fun j => .int (V.1 a j))) (fun z => by cases z) (by show ¬ (i < 0 ∨ (arrV _ _ _).slots.size ≤ _); rw [arrV_size]; exact hin) rfl rfl hd fun H1 e z oq => ?_
  refine K H1 ls _ (hR.put z oq wI_off fun k2 hk2 => ?_) (hS.put z oq (hR.2 a _ ht).1) hl
  have hk3 : k2 = .inl (4, N) := Option.some.inj (hk2.symm.trans ht)
  subst hk3
  show H1[a]? = some (vp_cell _ _)
  rw [e]
  simp only [ent, arrv, vp_cell_i]
  rw [arrV_store]
  congr 2
  funext j
  by_cases hj : j = i.toNatClampNeg
  · subst hj
    simp [updV, wI, upd]
    rfl
  · simp [updV, wI, upd, hj]
theorem k_zast (pc q : Nat) (C : Cx E p s m args meth c own cc nL ret) {a N : Nat} {i : Int32} {x : Int32}  (hd : decode cc pc = .ok (.bastore, 1)) (hq : pc + 1 = q) (ht : tA T a 5 N) (hin : vp_in i N) (K : KW E T (wI V a i.toNatClampNeg (vp_nar .boolean x)) p l e R s m args below meth c nL k n Q q L st) : KW E T V p l e R s m args below meth c nL k n Q pc L (.int x :: .int i :: .ref a :: st) := by
  subst hq
  intro H ls locs hR hS hl
  have hlt : i.toNatClampNeg < N := Nat.not_le.mp fun z => hin (Or.inr z)
  have hP := hR.one ht
  refine W.zast C.x C.b (hP 0 _ rfl) ((C.K.2 5 _ rfl).1 N (fun j => .int (V.1 a j))) (fun z => by cases z) (by show ¬ (i < 0 ∨ (arrV _ _ _).slots.size ≤ _); rw [arrV_size]; exact hin) rfl rfl hd fun H1 e z oq => ?_
  refine K H1 ls _ (hR.put z oq wI_off fun k2 hk2 => ?_) (hS.put z oq (hR.2 a _ ht).1) hl
  have hk3 : k2 = .inl (5, N) := Option.some.inj (hk2.symm.trans ht)
  subst hk3
  show H1[a]? = some (vp_cell _ _)
  rw [e]
  simp only [ent, arrv, vp_cell_i]
  rw [arrV_store]
  congr 2
  funext j
  by_cases hj : j = i.toNatClampNeg
  · subst hj
    simp [updV, wI, upd]
    rfl
  · simp [updV, wI, upd, hj]
theorem k_aast2 (pc q : Nat) (C : Cx E p s m args meth c own cc nL ret) {a N b : Nat} {i : Int32} (hd : decode cc pc = .ok (.aastore, 1)) (hq : pc + 1 = q) (ht : tA T a 2 N) (hb : tO T b 1) (hin : vp_in i N) (K : KW E T (wR V a i.toNatClampNeg (some b)) p l e R s m args below meth c nL k n Q q L st) : KW E T V p l e R s m args below meth c nL k n Q pc L (.ref b :: .int i :: .ref a :: st) := by
  subst hq
  intro H ls locs hR hS hl
  have hlt : i.toNatClampNeg < N := Nat.not_le.mp fun z => hin (Or.inr z)
  have h0 : ¬ i < 0 := fun z => hin (Or.inl z)
  have hP := hR.one ht
  obtain ⟨r', hr', cellV, g1, g2, g3, -⟩ := (hR.2 b _ hb).2
  have hcls := (C.K.1 1 _ rfl).2
  obtain ⟨kA, comp, k1, k2, k3, -⟩ := (C.K.2 2 _ rfl).2
  have hcomp : comp = E.1.1 1 := Option.some.inj (k3.symm.trans hcls.1)
  subst hcomp
  obtain ⟨kC, hkC, -⟩ := hcls.2
  refine W.aast C.x C.b (hP 0 _ rfl) (fun z h => by cases h) (fun h => by cases h) k1 k2 rfl hkC ⟨h0, by show _ < (arrV _ _ _).slots.size; rw [arrV_size]; exact hlt⟩ g1 (fun z h => by rw [g3] at h; cases h) (by rw [g2]; exact hkC) (by rw [g2]; exact va_assign hcls) rfl rfl hd fun H1 e z oq => ?_
  refine K H1 ls _ (hR.put z oq wR_off fun k2 hk2 => ?_) (hS.put z oq (hR.2 a _ ht).1) hl
  have hk3 : k2 = .inl (2, N) := Option.some.inj (hk2.symm.trans ht)
  subst hk3
  show H1[a]? = some (vp_cell _ _)
  rw [e]
  simp only [ent, arrv, vp_cell_q]
  rw [arrV_store]
  congr 2
  funext j
  by_cases hj : j = i.toNatClampNeg
  · subst hj
    simp [updV, wR, va_up, va_rf]
  · simp [updV, wR, va_up, hj]
theorem k_aast3 (pc q : Nat) (C : Cx E p s m args meth c own cc nL ret) {a N b : Nat} {i : Int32} (hd : decode cc pc = .ok (.aastore, 1)) (hq : pc + 1 = q) (ht : tA T a 3 N) (hb : tO T b 0) (hin : vp_in i N) (K : KW E T (wR V a i.toNatClampNeg (some b)) p l e R s m args below meth c nL k n Q q L st) : KW E T V p l e R s m args below meth c nL k n Q pc L (.ref b :: .int i :: .ref a :: st) := by
  subst hq
  intro H ls locs hR hS hl
  have hlt : i.toNatClampNeg < N := Nat.not_le.mp fun z => hin (Or.inr z)
  have h0 : ¬ i < 0 := fun z => hin (Or.inl z)
  have hP := hR.one ht
  obtain ⟨r', hr', cellV, g1, g2, g3, -⟩ := (hR.2 b _ hb).2
  have hcls := (C.K.1 0 _ rfl).2
  obtain ⟨kA, comp, k1, k2, k3, -⟩ := (C.K.2 3 _ rfl).2
  have hcomp : comp = E.1.1 0 := Option.some.inj (k3.symm.trans hcls.1)
  subst hcomp
  obtain ⟨kC, hkC, -⟩ := hcls.2
  refine W.aast C.x C.b (hP 0 _ rfl) (fun z h => by cases h) (fun h => by cases h) k1 k2 rfl hkC ⟨h0, by show _ < (arrV _ _ _).slots.size; rw [arrV_size]; exact hlt⟩ g1 (fun z h => by rw [g3] at h; cases h) (by rw [g2]; exact hkC) (by rw [g2]; exact va_assign hcls) rfl rfl hd fun H1 e z oq => ?_
  refine K H1 ls _ (hR.put z oq wR_off fun k2 hk2 => ?_) (hS.put z oq (hR.2 a _ ht).1) hl
  have hk3 : k2 = .inl (3, N) := Option.some.inj (hk2.symm.trans ht)
  subst hk3
  show H1[a]? = some (vp_cell _ _)
  rw [e]
  simp only [ent, arrv, vp_cell_q]
  rw [arrV_store]
  congr 2
  funext j
  by_cases hj : j = i.toNatClampNeg
  · subst hj
    simp [updV, wR, va_up, va_rf]
  · simp [updV, wR, va_up, hj]
theorem k_gets0 (pc q : Nat) (C : Cx E p s m args meth c own cc nL ret) {ix : Nat} (hd : decode cc pc = .ok (.getstatic ix, 3)) (hq : pc + 3 = q) (hw : Cond.fieldLink own ix "PantographArm" "LEAST_SETTING" "[I" ∈ GW) (K : KW E T V p l e R s m args below meth c nL k n Q q L (.ref (E.2.2.2 0) :: st)) : KW E T V p l e R s m args below meth c nL k n Q pc L st := by
  subst hq
  intro H ls locs hR hS hl
  exact va_gets C.x C.b C.st.1.1 hS C.ow (C.ts _ hw) (fun _ h => h) hd (K H ls locs hR hS hl)
theorem k_slen0 (pc q : Nat) (C : Cx E p s m args meth c own cc nL ret) (hd : decode cc pc = .ok (.arraylength, 1)) (hq : pc + 1 = q) (K : KW E T V p l e R s m args below meth c nL k n Q q L (.int 5 :: st)) : KW E T V p l e R s m args below meth c nL k n Q pc L (.ref (E.2.2.2 0) :: st) := by
  subst hq
  intro H ls locs hR hS hl
  exact va_slen C.x C.b C.st.1.2.1 (Nat.lt_of_lt_of_le C.st.1.2.2 C.bs) (Nat.not_le.mpr C.st.1.2.2) hS hd (K H ls locs hR hS hl)
theorem k_sald0 (pc q : Nat) (C : Cx E p s m args meth c own cc nL ret) {i : Int32} (hd : decode cc pc = .ok (.iaload, 1)) (hq : pc + 1 = q) (hin : vp_in i 5) (K : KW E T V p l e R s m args below meth c nL k n Q q L (.int (leastv i.toNatClampNeg) :: st)) : KW E T V p l e R s m args below meth c nL k n Q pc L (.int i :: .ref (E.2.2.2 0) :: st) := by
  subst hq
  intro H ls locs hR hS hl
  exact va_sld C.x C.b C.st.1.2.1 (Nat.lt_of_lt_of_le C.st.1.2.2 C.bs) (Nat.not_le.mpr C.st.1.2.2) hS hin hd (K H ls locs hR hS hl)
theorem k_gets1 (pc q : Nat) (C : Cx E p s m args meth c own cc nL ret) {ix : Nat} (hd : decode cc pc = .ok (.getstatic ix, 3)) (hq : pc + 3 = q) (hw : Cond.fieldLink own ix "PantographArm" "MOST_SETTING" "[I" ∈ GW) (K : KW E T V p l e R s m args below meth c nL k n Q q L (.ref (E.2.2.2 1) :: st)) : KW E T V p l e R s m args below meth c nL k n Q pc L st := by
  subst hq
  intro H ls locs hR hS hl
  exact va_gets C.x C.b C.st.2.1.1 hS C.ow (C.ts _ hw) (fun _ h => h) hd (K H ls locs hR hS hl)
theorem k_slen1 (pc q : Nat) (C : Cx E p s m args meth c own cc nL ret) (hd : decode cc pc = .ok (.arraylength, 1)) (hq : pc + 1 = q) (K : KW E T V p l e R s m args below meth c nL k n Q q L (.int 5 :: st)) : KW E T V p l e R s m args below meth c nL k n Q pc L (.ref (E.2.2.2 1) :: st) := by
  subst hq
  intro H ls locs hR hS hl
  exact va_slen C.x C.b C.st.2.1.2.1 (Nat.lt_of_lt_of_le C.st.2.1.2.2 C.bs) (Nat.not_le.mpr C.st.2.1.2.2) hS hd (K H ls locs hR hS hl)
theorem k_sald1 (pc q : Nat) (C : Cx E p s m args meth c own cc nL ret) {i : Int32} (hd : decode cc pc = .ok (.iaload, 1)) (hq : pc + 1 = q) (hin : vp_in i 5) (K : KW E T V p l e R s m args below meth c nL k n Q q L (.int (mostv i.toNatClampNeg) :: st)) : KW E T V p l e R s m args below meth c nL k n Q pc L (.int i :: .ref (E.2.2.2 1) :: st) := by
  subst hq
  intro H ls locs hR hS hl
  exact va_sld C.x C.b C.st.2.1.2.1 (Nat.lt_of_lt_of_le C.st.2.1.2.2 C.bs) (Nat.not_le.mpr C.st.2.1.2.2) hS hin hd (K H ls locs hR hS hl)
theorem k_gets2 (pc q : Nat) (C : Cx E p s m args meth c own cc nL ret) {ix : Nat} (hd : decode cc pc = .ok (.getstatic ix, 3)) (hq : pc + 3 = q) (hw : Cond.fieldLink own ix "PantographArm" "FIRST_SETTING" "[I" ∈ GW) (K : KW E T V p l e R s m args below meth c nL k n Q q L (.ref (E.2.2.2 2) :: st)) : KW E T V p l e R s m args below meth c nL k n Q pc L st := by
  subst hq
  intro H ls locs hR hS hl
  exact va_gets C.x C.b C.st.2.2.1 hS C.ow (C.ts _ hw) (fun _ h => h) hd (K H ls locs hR hS hl)
theorem k_slen2 (pc q : Nat) (C : Cx E p s m args meth c own cc nL ret) (hd : decode cc pc = .ok (.arraylength, 1)) (hq : pc + 1 = q) (K : KW E T V p l e R s m args below meth c nL k n Q q L (.int 5 :: st)) : KW E T V p l e R s m args below meth c nL k n Q pc L (.ref (E.2.2.2 2) :: st) := by
  subst hq
  intro H ls locs hR hS hl
  exact va_slen C.x C.b C.st.2.2.2.1 (Nat.lt_of_lt_of_le C.st.2.2.2.2 C.bs) (Nat.not_le.mpr C.st.2.2.2.2) hS hd (K H ls locs hR hS hl)
theorem k_sald2 (pc q : Nat) (C : Cx E p s m args meth c own cc nL ret) {i : Int32} (hd : decode cc pc = .ok (.iaload, 1)) (hq : pc + 1 = q) (hin : vp_in i 5) (K : KW E T V p l e R s m args below meth c nL k n Q q L (.int (firstv i.toNatClampNeg) :: st)) : KW E T V p l e R s m args below meth c nL k n Q pc L (.int i :: .ref (E.2.2.2 2) :: st) := by
  subst hq
  intro H ls locs hR hS hl
  exact va_sld C.x C.b C.st.2.2.2.1 (Nat.lt_of_lt_of_le C.st.2.2.2.2 C.bs) (Nat.not_le.mpr C.st.2.2.2.2) hS hin hd (K H ls locs hR hS hl)
theorem k_gets2N (pc q : Nat) (C : Cx E p s m args meth c own cc nL ret) {ix : Nat} (hd : decode cc pc = .ok (.getstatic ix, 3)) (hq : pc + 3 = q) (hw : Cond.fieldLinkNest own ix "PantographArm" "FIRST_SETTING" "[I" "PantographArm" ∈ nws) (K : KW E T V p l e R s m args below meth c nL k n Q q L (.ref (E.2.2.2 2) :: st)) : KW E T V p l e R s m args below meth c nL k n Q pc L st := by
  subst hq
  intro H ls locs hR hS hl
  exact va_getsN C.x C.b C.st.2.2.1 hS C.ow (va_Nw.use rfl (C.nw _ hw)) (fun _ h => h) hd (K H ls locs hR hS hl)
theorem k_absl (pc q : Nat) (C : Cx E p s m args meth c own cc nL ret) {ix : Nat} {x : Int64} (hd : decode cc pc = .ok (.invokestatic ix, 3)) (hq : pc + 3 = q) (hw : Cond.methodLink own ix Lib.MathLoose.abs_long.x ∈ GW) (hf : 1 ≤ R.frames) (hlo : (st.map fun v => v.category).sum + 13 ≤ R.locals) (hk : k ≤ R.cells) (hn : n ≤ R.slots) (K : KW E T V p l e R s m args below meth c nL k n Q q L (.long (if 0 < x then x else -x) :: st)) : KW E T V p l e R s m args below meth c nL k n Q pc L (.long x :: st) := by
  subst hq
  intro H ls locs hR hS hl
  exact va_mabs_long C.x C.b (C.ml.trans hl.1.symm) C.ow (C.ts _ hw) (C.ts _ st_m_Lib_MathLoose_abs_long_x) (C.ts _ ini_java_lang_Math) (C.ts _ cd_m_Lib_MathLoose_abs_long_x) hf hlo hk hn hd (K H ls locs hR hS hl)
theorem k_max (pc q : Nat) (C : Cx E p s m args meth c own cc nL ret) {ix : Nat} {x y : Int32} (hd : decode cc pc = .ok (.invokestatic ix, 3)) (hq : pc + 3 = q) (hw : Cond.methodLink own ix Lib.Math.max.name ∈ GW) (hf : 1 ≤ R.frames) (hlo : (st.map fun v => v.category).sum + 13 ≤ R.locals) (hk : k ≤ R.cells) (hn : n ≤ R.slots) (K : KW E T V p l e R s m args below meth c nL k n Q q L (.int (if x < y then y else x) :: st)) : KW E T V p l e R s m args below meth c nL k n Q pc L (.int y :: .int x :: st) := by
  subst hq
  intro H ls locs hR hS hl
  exact va_mmax C.x C.b (C.ml.trans hl.1.symm) C.ow (C.ts _ hw) (C.ts _ st_m_Lib_Math_max_name) (C.ts _ ini_java_lang_Math) (C.ts _ cd_m_Lib_Math_max_name) hf hlo hk hn hd (K H ls locs hR hS hl)
theorem k_min (pc q : Nat) (C : Cx E p s m args meth c own cc nL ret) {ix : Nat} {x y : Int32} (hd : decode cc pc = .ok (.invokestatic ix, 3)) (hq : pc + 3 = q) (hw : Cond.methodLink own ix Lib.Math.min.name ∈ GW) (hf : 1 ≤ R.frames) (hlo : (st.map fun v => v.category).sum + 13 ≤ R.locals) (hk : k ≤ R.cells) (hn : n ≤ R.slots) (K : KW E T V p l e R s m args below meth c nL k n Q q L (.int (if y < x then y else x) :: st)) : KW E T V p l e R s m args below meth c nL k n Q pc L (.int y :: .int x :: st) := by
  subst hq
  intro H ls locs hR hS hl
  exact va_mmin C.x C.b (C.ml.trans hl.1.symm) C.ow (C.ts _ hw) (C.ts _ st_m_Lib_Math_min_name) (C.ts _ ini_java_lang_Math) (C.ts _ cd_m_Lib_Math_min_name) hf hlo hk hn hd (K H ls locs hR hS hl)
end KWS

