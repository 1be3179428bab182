def gw (y : MethodName) (cc : ByteArray) (maxL : Nat) (ret : Option FieldType) : List Cond := .code y cc maxL ret :: GW
/-- what the tables say of a method -/
def MI (y : MethodName) (cc : ByteArray) (maxL : Nat) (ret : Option FieldType) (N : Nat) : Prop := Cond.code y cc maxL ret ∈ GW ∧ Cond.initialized y.cls ∈ GW ∧ y.cls ≠ "java/lang/invoke/MethodHandle" ∧ y.cls ≠ "java/lang/invoke/VarHandle" ∧ (parseMethodDescriptor y.desc).map (fun d => d.parameters.length) = some N
theorem gw_in {y : MethodName} {cc : ByteArray} {maxL : Nat} {ret : Option FieldType} {N : Nat} (I : MI y cc maxL ret N) : GoodIn GW (gw y cc maxL ret) := by
  intro w h
  rcases List.mem_cons.mp h with rfl | h
  · exact gw_good _ I.1
  · exact gw_good _ h
section CTS
variable {E : gE} {T : gT} {V : gV} {p : Program} {l : Launch} {e : Env} {R : Room} {s : State} {m : MethodId} {args : Array Value} {below : List Frame} {meth : Method} {c : Code} {own : String} {cc : ByteArray} {nL : Nat} {ret : Option FieldType} {k n : Nat} {Q : State → Prop} {L : List (Nat × Value)} {st : List Value}
theorem Cx.cb (C : Cx E p s m args meth c own cc nL ret) {y : MethodName} {cc' : ByteArray} {maxL : Nat} {ret' : Option FieldType} {N ix mc ms : Nat} {rm : Room} (I : MI y cc' maxL ret' N) (hw : Cond.methodLink own ix y ∈ GW) (hrc : rm.cells = mc) (hrs : rm.slots = ms) (hR : rm.frames + 1 ≤ R.frames ∧ 8 + (maxL + 11) + rm.locals ≤ R.locals) : CallB R s args own ix y cc' maxL ret' (gw y cc' maxL ret') rm mc ms N :=
  callB_of N C.ts (gw_in I) rfl hrc hrs (C.ts _ I.2.1) (C.ts _ hw) ⟨I.2.2.1, I.2.2.2.1, I.2.2.2.2⟩ hR
theorem Cx.cbN (C : Cx E p s m args meth c own cc nL ret) {y : MethodName} {cc' : ByteArray} {maxL : Nat} {ret' : Option FieldType} {N ix mc ms : Nat} {rm : Room} (I : MI y cc' maxL ret' N) (hw : Cond.methodLinkNest own ix y "PantographArm" ∈ nws) (hrc : rm.cells = mc) (hrs : rm.slots = ms) (hR : rm.frames + 1 ≤ R.frames ∧ 8 + (maxL + 11) + rm.locals ≤ R.locals) : va_CN R s args own ix y "PantographArm" cc' maxL ret' (gw y cc' maxL ret') rm mc ms N :=
  va_cnB N C.ts (gw_in I) rfl hrc hrs (C.nw _ hw) (C.ts _ I.2.1) ⟨I.2.2.1, I.2.2.2.1, I.2.2.2.2⟩ hR
theorem Cx.pre (C : Cx E p s m args meth c own cc nL ret) {H : Heap} {locs : List Loc} (hR : Rep E T V H) (hS : va_S (gA E) s.heap H locs) {av : List Value} : PreS s H (va_Pc av (RepS E T V)) av :=
  ⟨RepS.blind, fun U hU hW => ⟨rfl, C.out hS hR hU hW⟩⟩
theorem Cx.preV (C : Cx E p s m args meth c own cc nL ret) {H : Heap} {locs : List Loc} (hR : Rep E T V H) (hS : va_S (gA E) s.heap H locs) {b ci N : Nat} {Cn : String} {Tt : u_T} {ty : Nat → FieldType} (I : CI ci Cn Tt N ty) (hb : tO T b ci) {As : List Value} : PreV s H Cn b (va_Pc (.ref b :: As) (RepS E T V)) As :=
  ⟨RepS.blind, va_recv (q := (Cn, Tt, N)) C.K (hR.one hb) I.1 (q0 := 0) rfl, fun U hU hW => ⟨rfl, C.out hS hR hU hW⟩⟩

def CtI (E : gE) (T : gT) (l : Launch) (y : MethodName) (ws : List Cond) (rm : Room) (av : List Value) (V : gV) (Post : Int32 → gV → Prop) : Prop := Met l y ws rm (va_Pc av (RepS E T V)) (va_Qi Post (RepS E T) (gA E)) 0 0 (gA E)
theorem ctI_of {E : gE} {T : gT} {l : Launch} {y : MethodName} {rm : Room} {av : List Value} {V : gV} {Post : Int32 → gV → Prop} {maxL : Nat} {own : String} {cc : ByteArray} {ret : Option FieldType} (hy : plainName y.cls = true) (ho : y.cls = own) (hlen : (lg_sl av).length ≤ maxL) {L : List (Nat × Value)} (hL : lv_args 0 av = L)
    (body : ∀ (p : Program) (e : Env) (s : State) (m : MethodId) (args : Array Value) (below : List Frame) (meth : Method) (c : Code), Cx E p s m args meth c own cc maxL ret → KW E T V p l e rm s m args below meth c maxL 0 0 (MQ below (va_Qi Post (RepS E T) (gA E)) args s 0 0 (gA E)) 0 L []) : CtI E T l y (gw y cc maxL ret) rm av V Post := by
  refine Met.ofW (cc := cc) (maxL := maxL) (ret := ret) hy rfl ?_
  intro p e s m args below meth c s₁ B hml hv
  obtain ⟨rfl, h1, h2, h3, h4, h5, h6, h7⟩ := hv
  have hts : ∀ w ∈ GW, w.before av.toArray s = true := fun w h => atoms_spec (ws := gw y cc maxL ret) B.pre w (List.mem_cons_of_mem _ h)
  have C : Cx E p s m av.toArray meth c own cc maxL ret := ⟨B.exec, B.bytes, hml, by rw [← ho]; exact findClass_of_methodNamed B.named, hts, B.notSynchronized, h3, h4, h5, h6, h2, B.returns, h7⟩
  have hl := lv_entry av (n := maxL) hlen
  rw [lg_entry_eq]
  exact body p e s m _ below meth c C s.heap _ [] h1 va_S.rf (hL ▸ hl)
theorem k_callVI (pc q : Nat) (C : Cx E p s m args meth c own cc nL ret) {y : MethodName} {cc' : ByteArray} {maxL N ix : Nat} {ret' : Option FieldType} {f lo : Nat} {b ci Nf : Nat} {Cn : String} {Tt : u_T} {ty : Nat → FieldType} {Post : Int32 → gV → Prop} (As rest : List Value) (hd : decode cc pc = .ok (.invokevirtual ix, 3)) (hq : pc + 3 = q) (hM : CtI E T l y (gw y cc' maxL ret') { frames := f, cells := 0, slots := 0, locals := lo } (.ref b :: As) V Post) (I : MI y cc' maxL ret' N) (hw : Cond.methodLink own ix y ∈ GW) (hin : Cond.instanceMethod y ∈ GW) (hse : Cond.selects Cn y y ∈ GW) (Ic : CI ci Cn Tt Nf ty) (hb : tO T b ci) (hn : As.length = N) (hst : st = As.reverse ++ .ref b :: rest) (hroom : f + 1 ≤ R.frames ∧ 8 + (maxL + 11) + lo ≤ R.locals) (hcat : (rest.map fun v => v.category).sum ≤ 8) (hk0 : k ≤ R.cells) (hn0 : n ≤ R.slots)
    (kk : ∀ (r : Int32) (V' : gV), Post r V' → KW E T V' p l e R s m args below meth c nL k n Q q L (.int r :: rest)) : KW E T V p l e R s m args below meth c nL k n Q pc L st := by
  subst hq
  intro H ls locs hR hS hl
  refine va_calli (va_runV (As := As) (rest := rest) ⟨C.x, C.b, C.ml, C.ow, C.ts⟩ hM ⟨C.cb I hw rfl rfl hroom, C.ts _ hin, C.ts _ hse⟩ (C.preV hR hS Ic hb) rfl hn hl.1 hst (lv_room hcat) hd ⟨hk0, hn0⟩) hS (fun q _ h => h) (fun q h => h) (fun r u t H1 locs1 ht hvm hw hB hz1 hk1 hS1 => ?_)
  exact kk r u hw H1 ls locs1 (ht ▸ hB.1) hS1 hl
theorem k_callSI (pc q : Nat) (C : Cx E p s m args meth c own cc nL ret) {y : MethodName} {cc' : ByteArray} {maxL N ix : Nat} {ret' : Option FieldType} {f lo : Nat}  {Post : Int32 → gV → Prop} (As rest : List Value) (hd : decode cc pc = .ok (.invokestatic ix, 3)) (hq : pc + 3 = q) (hM : CtI E T l y (gw y cc' maxL ret') { frames := f, cells := 0, slots := 0, locals := lo } As V Post) (I : MI y cc' maxL ret' N) (hw : Cond.methodLink own ix y ∈ GW) (hstt : Cond.static y ∈ GW) (hn : As.length = N) (hst : st = As.reverse ++ rest) (hroom : f + 1 ≤ R.frames ∧ 8 + (maxL + 11) + lo ≤ R.locals) (hcat : (rest.map fun v => v.category).sum ≤ 8) (hk0 : k ≤ R.cells) (hn0 : n ≤ R.slots)
    (kk : ∀ (r : Int32) (V' : gV), Post r V' → KW E T V' p l e R s m args below meth c nL k n Q q L (.int r :: rest)) : KW E T V p l e R s m args below meth c nL k n Q pc L st := by
  subst hq
  intro H ls locs hR hS hl
  refine va_calli (va_runS (As := As) (rest := rest) ⟨C.x, C.b, C.ml, C.ow, C.ts⟩ hM ⟨C.cb I hw rfl rfl hroom, C.ts _ hstt⟩ (C.pre hR hS) rfl hn hl.1 hst (lv_room hcat) hd ⟨hk0, hn0⟩) hS (fun q _ h => h) (fun q h => h) (fun r u t H1 locs1 ht hvm hw hB hz1 hk1 hS1 => ?_)
  exact kk r u hw H1 ls locs1 (ht ▸ hB.1) hS1 hl
theorem k_callSNI (pc q : Nat) (C : Cx E p s m args meth c own cc nL ret) {y : MethodName} {cc' : ByteArray} {maxL N ix : Nat} {ret' : Option FieldType} {f lo : Nat}  {Post : Int32 → gV → Prop} (As rest : List Value) (hd : decode cc pc = .ok (.invokestatic ix, 3)) (hq : pc + 3 = q) (hM : CtI E T l y (gw y cc' maxL ret') { frames := f, cells := 0, slots := 0, locals := lo } As V Post) (I : MI y cc' maxL ret' N) (hw : Cond.methodLinkNest own ix y "PantographArm" ∈ nws) (hstt : Cond.static y ∈ GW) (hn : As.length = N) (hst : st = As.reverse ++ rest) (hroom : f + 1 ≤ R.frames ∧ 8 + (maxL + 11) + lo ≤ R.locals) (hcat : (rest.map fun v => v.category).sum ≤ 8) (hk0 : k ≤ R.cells) (hn0 : n ≤ R.slots)
    (kk : ∀ (r : Int32) (V' : gV), Post r V' → KW E T V' p l e R s m args below meth c nL k n Q q L (.int r :: rest)) : KW E T V p l e R s m args below meth c nL k n Q pc L st := by
  subst hq
  intro H ls locs hR hS hl
  refine va_calli (va_runSN (As := As) (rest := rest) ⟨C.x, C.b, C.ml, C.ow, C.ts⟩ hM ⟨C.cbN I hw rfl rfl hroom, C.ts _ hstt, trivial⟩ (C.pre hR hS) rfl hn hl.1 hst (lv_room hcat) hd ⟨hk0, hn0⟩) hS (fun q _ h => h) (fun q h => h) (fun r u t H1 locs1 ht hvm hw hB hz1 hk1 hS1 => ?_)
  exact kk r u hw H1 ls locs1 (ht ▸ hB.1) hS1 hl
def CtL (E : gE) (T : gT) (l : Launch) (y : MethodName) (ws : List Cond) (rm : Room) (av : List Value) (V : gV) (Post : Int64 → gV → Prop) : Prop := Met l y ws rm (va_Pc av (RepS E T V)) (va_Ql Post (RepS E T) (gA E)) 0 0 (gA E)
theorem ctL_of {E : gE} {T : gT} {l : Launch} {y : MethodName} {rm : Room} {av : List Value} {V : gV} {Post : Int64 → gV → Prop} {maxL : Nat} {own : String} {cc : ByteArray} {ret : Option FieldType} (hy : plainName y.cls = true) (ho : y.cls = own) (hlen : (lg_sl av).length ≤ maxL) {L : List (Nat × Value)} (hL : lv_args 0 av = L)
    (body : ∀ (p : Program) (e : Env) (s : State) (m : MethodId) (args : Array Value) (below : List Frame) (meth : Method) (c : Code), Cx E p s m args meth c own cc maxL ret → KW E T V p l e rm s m args below meth c maxL 0 0 (MQ below (va_Ql Post (RepS E T) (gA E)) args s 0 0 (gA E)) 0 L []) : CtL E T l y (gw y cc maxL ret) rm av V Post := by
  refine Met.ofW (cc := cc) (maxL := maxL) (ret := ret) hy rfl ?_
  intro p e s m args below meth c s₁ B hml hv
  obtain ⟨rfl, h1, h2, h3, h4, h5, h6, h7⟩ := hv
  have hts : ∀ w ∈ GW, w.before av.toArray s = true := fun w h => atoms_spec (ws := gw y cc maxL ret) B.pre w (List.mem_cons_of_mem _ h)
  have C : Cx E p s m av.toArray meth c own cc maxL ret := ⟨B.exec, B.bytes, hml, by rw [← ho]; exact findClass_of_methodNamed B.named, hts, B.notSynchronized, h3, h4, h5, h6, h2, B.returns, h7⟩
  have hl := lv_entry av (n := maxL) hlen
  rw [lg_entry_eq]
  exact body p e s m _ below meth c C s.heap _ [] h1 va_S.rf (hL ▸ hl)
theorem k_callVL (pc q : Nat) (C : Cx E p s m args meth c own cc nL ret) {y : MethodName} {cc' : ByteArray} {maxL N ix : Nat} {ret' : Option FieldType} {f lo : Nat} {b ci Nf : Nat} {Cn : String} {Tt : u_T} {ty : Nat → FieldType} {Post : Int64 → gV → Prop} (As rest : List Value) (hd : decode cc pc = .ok (.invokevirtual ix, 3)) (hq : pc + 3 = q) (hM : CtL E T l y (gw y cc' maxL ret') { frames := f, cells := 0, slots := 0, locals := lo } (.ref b :: As) V Post) (I : MI y cc' maxL ret' N) (hw : Cond.methodLink own ix y ∈ GW) (hin : Cond.instanceMethod y ∈ GW) (hse : Cond.selects Cn y y ∈ GW) (Ic : CI ci Cn Tt Nf ty) (hb : tO T b ci) (hn : As.length = N) (hst : st = As.reverse ++ .ref b :: rest) (hroom : f + 1 ≤ R.frames ∧ 8 + (maxL + 11) + lo ≤ R.locals) (hcat : (rest.map fun v => v.category).sum ≤ 8) (hk0 : k ≤ R.cells) (hn0 : n ≤ R.slots)
    (kk : ∀ (r : Int64) (V' : gV), Post r V' → KW E T V' p l e R s m args below meth c nL k n Q q L (.long r :: rest)) : KW E T V p l e R s m args below meth c nL k n Q pc L st := by
  subst hq
  intro H ls locs hR hS hl
  refine va_calll (va_runV (As := As) (rest := rest) ⟨C.x, C.b, C.ml, C.ow, C.ts⟩ hM ⟨C.cb I hw rfl rfl hroom, C.ts _ hin, C.ts _ hse⟩ (C.preV hR hS Ic hb) rfl hn hl.1 hst (lv_room hcat) hd ⟨hk0, hn0⟩) hS (fun q _ h => h) (fun q h => h) (fun r u t H1 locs1 ht hvm hw hB hz1 hk1 hS1 => ?_)
  exact kk r u hw H1 ls locs1 (ht ▸ hB.1) hS1 hl
theorem k_callSL (pc q : Nat) (C : Cx E p s m args meth c own cc nL ret) {y : MethodName} {cc' : ByteArray} {maxL N ix : Nat} {ret' : Option FieldType} {f lo : Nat}  {Post : Int64 → gV → Prop} (As rest : List Value) (hd : decode cc pc = .ok (.invokestatic ix, 3)) (hq : pc + 3 = q) (hM : CtL E T l y (gw y cc' maxL ret') { frames := f, cells := 0, slots := 0, locals := lo } As V Post) (I : MI y cc' maxL ret' N) (hw : Cond.methodLink own ix y ∈ GW) (hstt : Cond.static y ∈ GW) (hn : As.length = N) (hst : st = As.reverse ++ rest) (hroom : f + 1 ≤ R.frames ∧ 8 + (maxL + 11) + lo ≤ R.locals) (hcat : (rest.map fun v => v.category).sum ≤ 8) (hk0 : k ≤ R.cells) (hn0 : n ≤ R.slots)
    (kk : ∀ (r : Int64) (V' : gV), Post r V' → KW E T V' p l e R s m args below meth c nL k n Q q L (.long r :: rest)) : KW E T V p l e R s m args below meth c nL k n Q pc L st := by
  subst hq
  intro H ls locs hR hS hl
  refine va_calll (va_runS (As := As) (rest := rest) ⟨C.x, C.b, C.ml, C.ow, C.ts⟩ hM ⟨C.cb I hw rfl rfl hroom, C.ts _ hstt⟩ (C.pre hR hS) rfl hn hl.1 hst (lv_room hcat) hd ⟨hk0, hn0⟩) hS (fun q _ h => h) (fun q h => h) (fun r u t H1 locs1 ht hvm hw hB hz1 hk1 hS1 => ?_)
  exact kk r u hw H1 ls locs1 (ht ▸ hB.1) hS1 hl
theorem k_callSNL (pc q : Nat) (C : Cx E p s m args meth c own cc nL ret) {y : MethodName} {cc' : ByteArray} {maxL N ix : Nat} {ret' : Option FieldType} {f lo : Nat}  {Post : Int64 → gV → Prop} (As rest : List Value) (hd : decode cc pc = .ok (.invokestatic ix, 3)) (hq : pc + 3 = q) (hM : CtL E T l y (gw y cc' maxL ret') { frames := f, cells := 0, slots := 0, locals := lo } As V Post) (I : MI y cc' maxL ret' N) (hw : Cond.methodLinkNest own ix y "PantographArm" ∈ nws) (hstt : Cond.static y ∈ GW) (hn : As.length = N) (hst : st = As.reverse ++ rest) (hroom : f + 1 ≤ R.frames ∧ 8 + (maxL + 11) + lo ≤ R.locals) (hcat : (rest.map fun v => v.category).sum ≤ 8) (hk0 : k ≤ R.cells) (hn0 : n ≤ R.slots)
    (kk : ∀ (r : Int64) (V' : gV), Post r V' → KW E T V' p l e R s m args below meth c nL k n Q q L (.long r :: rest)) : KW E T V p l e R s m args below meth c nL k n Q pc L st := by
  subst hq
  intro H ls locs hR hS hl
  refine va_calll (va_runSN (As := As) (rest := rest) ⟨C.x, C.b, C.ml, C.ow, C.ts⟩ hM ⟨C.cbN I hw rfl rfl hroom, C.ts _ hstt, trivial⟩ (C.pre hR hS) rfl hn hl.1 hst (lv_room hcat) hd ⟨hk0, hn0⟩) hS (fun q _ h => h) (fun q h => h) (fun r u t H1 locs1 ht hvm hw hB hz1 hk1 hS1 => ?_)
  exact kk r u hw H1 ls locs1 (ht ▸ hB.1) hS1 hl
def CtF (E : gE) (T : gT) (l : Launch) (y : MethodName) (ws : List Cond) (rm : Room) (av : List Value) (V : gV) (Post : UInt32 → gV → Prop) : Prop := Met l y ws rm (va_Pc av (RepS E T V)) (va_Qf Post (RepS E T) (gA E)) 0 0 (gA E)
theorem ctF_of {E : gE} {T : gT} {l : Launch} {y : MethodName} {rm : Room} {av : List Value} {V : gV} {Post : UInt32 → gV → Prop} {maxL : Nat} {own : String} {cc : ByteArray} {ret : Option FieldType} (hy : plainName y.cls = true) (ho : y.cls = own) (hlen : (lg_sl av).length ≤ maxL) {L : List (Nat × Value)} (hL : lv_args 0 av = L)
    (body : ∀ (p : Program) (e : Env) (s : State) (m : MethodId) (args : Array Value) (below : List Frame) (meth : Method) (c : Code), Cx E p s m args meth c own cc maxL ret → KW E T V p l e rm s m args below meth c maxL 0 0 (MQ below (va_Qf Post (RepS E T) (gA E)) args s 0 0 (gA E)) 0 L []) : CtF E T l y (gw y cc maxL ret) rm av V Post := by
  refine Met.ofW (cc := cc) (maxL := maxL) (ret := ret) hy rfl ?_
  intro p e s m args below meth c s₁ B hml hv
  obtain ⟨rfl, h1, h2, h3, h4, h5, h6, h7⟩ := hv
  have hts : ∀ w ∈ GW, w.before av.toArray s = true := fun w h => atoms_spec (ws := gw y cc maxL ret) B.pre w (List.mem_cons_of_mem _ h)
  have C : Cx E p s m av.toArray meth c own cc maxL ret := ⟨B.exec, B.bytes, hml, by rw [← ho]; exact findClass_of_methodNamed B.named, hts, B.notSynchronized, h3, h4, h5, h6, h2, B.returns, h7⟩
  have hl := lv_entry av (n := maxL) hlen
  rw [lg_entry_eq]
  exact body p e s m _ below meth c C s.heap _ [] h1 va_S.rf (hL ▸ hl)
theorem k_callVF (pc q : Nat) (C : Cx E p s m args meth c own cc nL ret) {y : MethodName} {cc' : ByteArray} {maxL N ix : Nat} {ret' : Option FieldType} {f lo : Nat} {b ci Nf : Nat} {Cn : String} {Tt : u_T} {ty : Nat → FieldType} {Post : UInt32 → gV → Prop} (As rest : List Value) (hd : decode cc pc = .ok (.invokevirtual ix, 3)) (hq : pc + 3 = q) (hM : CtF E T l y (gw y cc' maxL ret') { frames := f, cells := 0, slots := 0, locals := lo } (.ref b :: As) V Post) (I : MI y cc' maxL ret' N) (hw : Cond.methodLink own ix y ∈ GW) (hin : Cond.instanceMethod y ∈ GW) (hse : Cond.selects Cn y y ∈ GW) (Ic : CI ci Cn Tt Nf ty) (hb : tO T b ci) (hn : As.length = N) (hst : st = As.reverse ++ .ref b :: rest) (hroom : f + 1 ≤ R.frames ∧ 8 + (maxL + 11) + lo ≤ R.locals) (hcat : (rest.map fun v => v.category).sum ≤ 8) (hk0 : k ≤ R.cells) (hn0 : n ≤ R.slots)
    (kk : ∀ (r : UInt32) (V' : gV), Post r V' → KW E T V' p l e R s m args below meth c nL k n Q q L (.float r :: rest)) : KW E T V p l e R s m args below meth c nL k n Q pc L st := by
  subst hq
  intro H ls locs hR hS hl
  refine va_callf (va_runV (As := As) (rest := rest) ⟨C.x, C.b, C.ml, C.ow, C.ts⟩ hM ⟨C.cb I hw rfl rfl hroom, C.ts _ hin, C.ts _ hse⟩ (C.preV hR hS Ic hb) rfl hn hl.1 hst (lv_room hcat) hd ⟨hk0, hn0⟩) hS (fun q _ h => h) (fun q h => h) (fun r u t H1 locs1 ht hvm hw hB hz1 hk1 hS1 => ?_)
  exact kk r u hw H1 ls locs1 (ht ▸ hB.1) hS1 hl
theorem k_callSF (pc q : Nat) (C : Cx E p s m args meth c own cc nL ret) {y : MethodName} {cc' : ByteArray} {maxL N ix : Nat} {ret' : Option FieldType} {f lo : Nat}  {Post : UInt32 → gV → Prop} (As rest : List Value) (hd : decode cc pc = .ok (.invokestatic ix, 3)) (hq : pc + 3 = q) (hM : CtF E T l y (gw y cc' maxL ret') { frames := f, cells := 0, slots := 0, locals := lo } As V Post) (I : MI y cc' maxL ret' N) (hw : Cond.methodLink own ix y ∈ GW) (hstt : Cond.static y ∈ GW) (hn : As.length = N) (hst : st = As.reverse ++ rest) (hroom : f + 1 ≤ R.frames ∧ 8 + (maxL + 11) + lo ≤ R.locals) (hcat : (rest.map fun v => v.category).sum ≤ 8) (hk0 : k ≤ R.cells) (hn0 : n ≤ R.slots)
    (kk : ∀ (r : UInt32) (V' : gV), Post r V' → KW E T V' p l e R s m args below meth c nL k n Q q L (.float r :: rest)) : KW E T V p l e R s m args below meth c nL k n Q pc L st := by
  subst hq
  intro H ls locs hR hS hl
  refine va_callf (va_runS (As := As) (rest := rest) ⟨C.x, C.b, C.ml, C.ow, C.ts⟩ hM ⟨C.cb I hw rfl rfl hroom, C.ts _ hstt⟩ (C.pre hR hS) rfl hn hl.1 hst (lv_room hcat) hd ⟨hk0, hn0⟩) hS (fun q _ h => h) (fun q h => h) (fun r u t H1 locs1 ht hvm hw hB hz1 hk1 hS1 => ?_)
  exact kk r u hw H1 ls locs1 (ht ▸ hB.1) hS1 hl
theorem k_callSNF (pc q : Nat) (C : Cx E p s m args meth c own cc nL ret) {y : MethodName} {cc' : ByteArray} {maxL N ix : Nat} {ret' : Option FieldType} {f lo : Nat}  {Post : UInt32 → gV → Prop} (As rest : List Value) (hd : decode cc pc = .ok (.invokestatic ix, 3)) (hq : pc + 3 = q) (hM : CtF E T l y (gw y cc' maxL ret') { frames := f, cells := 0, slots := 0, locals := lo } As V Post) (I : MI y cc' maxL ret' N) (hw : Cond.methodLinkNest own ix y "PantographArm" ∈ nws) (hstt : Cond.static y ∈ GW) (hn : As.length = N) (hst : st = As.reverse ++ rest) (hroom : f + 1 ≤ R.frames ∧ 8 + (maxL + 11) + lo ≤ R.locals) (hcat : (rest.map fun v => v.category).sum ≤ 8) (hk0 : k ≤ R.cells) (hn0 : n ≤ R.slots)
    (kk : ∀ (r : UInt32) (V' : gV), Post r V' → KW E T V' p l e R s m args below meth c nL k n Q q L (.float r :: rest)) : KW E T V p l e R s m args below meth c nL k n Q pc L st := by
  subst hq
  intro H ls locs hR hS hl
  refine va_callf (va_runSN (As := As) (rest := rest) ⟨C.x, C.b, C.ml, C.ow, C.ts⟩ hM ⟨C.cbN I hw rfl rfl hroom, C.ts _ hstt, trivial⟩ (C.pre hR hS) rfl hn hl.1 hst (lv_room hcat) hd ⟨hk0, hn0⟩) hS (fun q _ h => h) (fun q h => h) (fun r u t H1 locs1 ht hvm hw hB hz1 hk1 hS1 => ?_)
  exact kk r u hw H1 ls locs1 (ht ▸ hB.1) hS1 hl
def CtQ (E : gE) (T : gT) (l : Launch) (y : MethodName) (ws : List Cond) (rm : Room) (av : List Value) (V : gV) (Post : Option Nat → gV → Prop) : Prop := Met l y ws rm (va_Pc av (RepS E T V)) (va_Qq Post (RepS E T) (gA E)) 0 0 (gA E)
theorem ctQ_of {E : gE} {T : gT} {l : Launch} {y : MethodName} {rm : Room} {av : List Value} {V : gV} {Post : Option Nat → gV → Prop} {maxL : Nat} {own : String} {cc : ByteArray} {ret : Option FieldType} (hy : plainName y.cls = true) (ho : y.cls = own) (hlen : (lg_sl av).length ≤ maxL) {L : List (Nat × Value)} (hL : lv_args 0 av = L)
    (body : ∀ (p : Program) (e : Env) (s : State) (m : MethodId) (args : Array Value) (below : List Frame) (meth : Method) (c : Code), Cx E p s m args meth c own cc maxL ret → KW E T V p l e rm s m args below meth c maxL 0 0 (MQ below (va_Qq Post (RepS E T) (gA E)) args s 0 0 (gA E)) 0 L []) : CtQ E T l y (gw y cc maxL ret) rm av V Post := by
  refine Met.ofW (cc := cc) (maxL := maxL) (ret := ret) hy rfl ?_
  intro p e s m args below meth c s₁ B hml hv
  obtain ⟨rfl, h1, h2, h3, h4, h5, h6, h7⟩ := hv
  have hts : ∀ w ∈ GW, w.before av.toArray s = true := fun w h => atoms_spec (ws := gw y cc maxL ret) B.pre w (List.mem_cons_of_mem _ h)
  have C : Cx E p s m av.toArray meth c own cc maxL ret := ⟨B.exec, B.bytes, hml, by rw [← ho]; exact findClass_of_methodNamed B.named, hts, B.notSynchronized, h3, h4, h5, h6, h2, B.returns, h7⟩
  have hl := lv_entry av (n := maxL) hlen
  rw [lg_entry_eq]
  exact body p e s m _ below meth c C s.heap _ [] h1 va_S.rf (hL ▸ hl)
theorem k_callVQ (pc q : Nat) (C : Cx E p s m args meth c own cc nL ret) {y : MethodName} {cc' : ByteArray} {maxL N ix : Nat} {ret' : Option FieldType} {f lo : Nat} {b ci Nf : Nat} {Cn : String} {Tt : u_T} {ty : Nat → FieldType} {Post : Option Nat → gV → Prop} (As rest : List Value) (hd : decode cc pc = .ok (.invokevirtual ix, 3)) (hq : pc + 3 = q) (hM : CtQ E T l y (gw y cc' maxL ret') { frames := f, cells := 0, slots := 0, locals := lo } (.ref b :: As) V Post) (I : MI y cc' maxL ret' N) (hw : Cond.methodLink own ix y ∈ GW) (hin : Cond.instanceMethod y ∈ GW) (hse : Cond.selects Cn y y ∈ GW) (Ic : CI ci Cn Tt Nf ty) (hb : tO T b ci) (hn : As.length = N) (hst : st = As.reverse ++ .ref b :: rest) (hroom : f + 1 ≤ R.frames ∧ 8 + (maxL + 11) + lo ≤ R.locals) (hcat : (rest.map fun v => v.category).sum ≤ 8) (hk0 : k ≤ R.cells) (hn0 : n ≤ R.slots)
    (kk : ∀ (r : Option Nat) (V' : gV), Post r V' → KW E T V' p l e R s m args below meth c nL k n Q q L (va_rf r :: rest)) : KW E T V p l e R s m args below meth c nL k n Q pc L st := by
  subst hq
  intro H ls locs hR hS hl
  refine va_callq (va_runV (As := As) (rest := rest) ⟨C.x, C.b, C.ml, C.ow, C.ts⟩ hM ⟨C.cb I hw rfl rfl hroom, C.ts _ hin, C.ts _ hse⟩ (C.preV hR hS Ic hb) rfl hn hl.1 hst (lv_room hcat) hd ⟨hk0, hn0⟩) hS (fun q _ h => h) (fun q h => h) (fun r u t H1 locs1 ht hvm hw hB hz1 hk1 hS1 => ?_)
  exact kk r u hw H1 ls locs1 (ht ▸ hB.1) hS1 hl
theorem k_callSQ (pc q : Nat) (C : Cx E p s m args meth c own cc nL ret) {y : MethodName} {cc' : ByteArray} {maxL N ix : Nat} {ret' : Option FieldType} {f lo : Nat}  {Post : Option Nat → gV → Prop} (As rest : List Value) (hd : decode cc pc = .ok (.invokestatic ix, 3)) (hq : pc + 3 = q) (hM : CtQ E T l y (gw y cc' maxL ret') { frames := f, cells := 0, slots := 0, locals := lo } As V Post) (I : MI y cc' maxL ret' N) (hw : Cond.methodLink own ix y ∈ GW) (hstt : Cond.static y ∈ GW) (hn : As.length = N) (hst : st = As.reverse ++ rest) (hroom : f + 1 ≤ R.frames ∧ 8 + (maxL + 11) + lo ≤ R.locals) (hcat : (rest.map fun v => v.category).sum ≤ 8) (hk0 : k ≤ R.cells) (hn0 : n ≤ R.slots)
    (kk : ∀ (r : Option Nat) (V' : gV), Post r V' → KW E T V' p l e R s m args below meth c nL k n Q q L (va_rf r :: rest)) : KW E T V p l e R s m args below meth c nL k n Q pc L st := by
  subst hq
  intro H ls locs hR hS hl
  refine va_callq (va_runS (As := As) (rest := rest) ⟨C.x, C.b, C.ml, C.ow, C.ts⟩ hM ⟨C.cb I hw rfl rfl hroom, C.ts _ hstt⟩ (C.pre hR hS) rfl hn hl.1 hst (lv_room hcat) hd ⟨hk0, hn0⟩) hS (fun q _ h => h) (fun q h => h) (fun r u t H1 locs1 ht hvm hw hB hz1 hk1 hS1 => ?_)
  exact kk r u hw H1 ls locs1 (ht ▸ hB.1) hS1 hl
theorem k_callSNQ (pc q : Nat) (C : Cx E p s m args meth c own cc nL ret) {y : MethodName} {cc' : ByteArray} {maxL N ix : Nat} {ret' : Option FieldType} {f lo : Nat}  {Post : Option Nat → gV → Prop} (As rest : List Value) (hd : decode cc pc = .ok (.invokestatic ix, 3)) (hq : pc + 3 = q) (hM : CtQ E T l y (gw y cc' maxL ret') { frames := f, cells := 0, slots := 0, locals := lo } As V Post) (I : MI y cc' maxL ret' N) (hw : Cond.methodLinkNest own ix y "PantographArm" ∈ nws) (hstt : Cond.static y ∈ GW) (hn : As.length = N) (hst : st = As.reverse ++ rest) (hroom : f + 1 ≤ R.frames ∧ 8 + (maxL + 11) + lo ≤ R.locals) (hcat : (rest.map fun v => v.category).sum ≤ 8) (hk0 : k ≤ R.cells) (hn0 : n ≤ R.slots)
    (kk : ∀ (r : Option Nat) (V' : gV), Post r V' → KW E T V' p l e R s m args below meth c nL k n Q q L (va_rf r :: rest)) : KW E T V p l e R s m args below meth c nL k n Q pc L st := by
  subst hq
  intro H ls locs hR hS hl
  refine va_callq (va_runSN (As := As) (rest := rest) ⟨C.x, C.b, C.ml, C.ow, C.ts⟩ hM ⟨C.cbN I hw rfl rfl hroom, C.ts _ hstt, trivial⟩ (C.pre hR hS) rfl hn hl.1 hst (lv_room hcat) hd ⟨hk0, hn0⟩) hS (fun q _ h => h) (fun q h => h) (fun r u t H1 locs1 ht hvm hw hB hz1 hk1 hS1 => ?_)
  exact kk r u hw H1 ls locs1 (ht ▸ hB.1) hS1 hl
def CtV (E : gE) (T : gT) (l : Launch) (y : MethodName) (ws : List Cond) (rm : Room) (av : List Value) (V : gV) (Post : gV → Prop) : Prop := Met l y ws rm (va_Pc av (RepS E T V)) (va_Qv Post (RepS E T) (gA E)) 0 0 (gA E)
theorem ctV_of {E : gE} {T : gT} {l : Launch} {y : MethodName} {rm : Room} {av : List Value} {V : gV} {Post : gV → Prop} {maxL : Nat} {own : String} {cc : ByteArray} {ret : Option FieldType} (hy : plainName y.cls = true) (ho : y.cls = own) (hlen : (lg_sl av).length ≤ maxL) {L : List (Nat × Value)} (hL : lv_args 0 av = L)
    (body : ∀ (p : Program) (e : Env) (s : State) (m : MethodId) (args : Array Value) (below : List Frame) (meth : Method) (c : Code), Cx E p s m args meth c own cc maxL ret → KW E T V p l e rm s m args below meth c maxL 0 0 (MQ below (va_Qv Post (RepS E T) (gA E)) args s 0 0 (gA E)) 0 L []) : CtV E T l y (gw y cc maxL ret) rm av V Post := by
  refine Met.ofW (cc := cc) (maxL := maxL) (ret := ret) hy rfl ?_
  intro p e s m args below meth c s₁ B hml hv
  obtain ⟨rfl, h1, h2, h3, h4, h5, h6, h7⟩ := hv
  have hts : ∀ w ∈ GW, w.before av.toArray s = true := fun w h => atoms_spec (ws := gw y cc maxL ret) B.pre w (List.mem_cons_of_mem _ h)
  have C : Cx E p s m av.toArray meth c own cc maxL ret := ⟨B.exec, B.bytes, hml, by rw [← ho]; exact findClass_of_methodNamed B.named, hts, B.notSynchronized, h3, h4, h5, h6, h2, B.returns, h7⟩
  have hl := lv_entry av (n := maxL) hlen
  rw [lg_entry_eq]
  exact body p e s m _ below meth c C s.heap _ [] h1 va_S.rf (hL ▸ hl)
theorem k_callVV (pc q : Nat) (C : Cx E p s m args meth c own cc nL ret) {y : MethodName} {cc' : ByteArray} {maxL N ix : Nat} {ret' : Option FieldType} {f lo : Nat} {b ci Nf : Nat} {Cn : String} {Tt : u_T} {ty : Nat → FieldType} {Post : gV → Prop} (As rest : List Value) (hd : decode cc pc = .ok (.invokevirtual ix, 3)) (hq : pc + 3 = q) (hM : CtV E T l y (gw y cc' maxL ret') { frames := f, cells := 0, slots := 0, locals := lo } (.ref b :: As) V Post) (I : MI y cc' maxL ret' N) (hw : Cond.methodLink own ix y ∈ GW) (hin : Cond.instanceMethod y ∈ GW) (hse : Cond.selects Cn y y ∈ GW) (Ic : CI ci Cn Tt Nf ty) (hb : tO T b ci) (hn : As.length = N) (hst : st = As.reverse ++ .ref b :: rest) (hroom : f + 1 ≤ R.frames ∧ 8 + (maxL + 11) + lo ≤ R.locals) (hcat : (rest.map fun v => v.category).sum ≤ 8) (hk0 : k ≤ R.cells) (hn0 : n ≤ R.slots)
    (kk : ∀ (V' : gV), Post V' → KW E T V' p l e R s m args below meth c nL k n Q q L rest) : KW E T V p l e R s m args below meth c nL k n Q pc L st := by
  subst hq
  intro H ls locs hR hS hl
  refine va_callv (va_runV (As := As) (rest := rest) ⟨C.x, C.b, C.ml, C.ow, C.ts⟩ hM ⟨C.cb I hw rfl rfl hroom, C.ts _ hin, C.ts _ hse⟩ (C.preV hR hS Ic hb) rfl hn hl.1 hst (lv_room hcat) hd ⟨hk0, hn0⟩) hS (fun q _ h => h) (fun q h => h) (fun u t H1 locs1 ht hvm hw hB hz1 hk1 hS1 => ?_)
  exact kk u hw H1 ls locs1 (ht ▸ hB.1) hS1 hl
theorem k_callSV (pc q : Nat) (C : Cx E p s m args meth c own cc nL ret) {y : MethodName} {cc' : ByteArray} {maxL N ix : Nat} {ret' : Option FieldType} {f lo : Nat}  {Post : gV → Prop} (As rest : List Value) (hd : decode cc pc = .ok (.invokestatic ix, 3)) (hq : pc + 3 = q) (hM : CtV E T l y (gw y cc' maxL ret') { frames := f, cells := 0, slots := 0, locals := lo } As V Post) (I : MI y cc' maxL ret' N) (hw : Cond.methodLink own ix y ∈ GW) (hstt : Cond.static y ∈ GW) (hn : As.length = N) (hst : st = As.reverse ++ rest) (hroom : f + 1 ≤ R.frames ∧ 8 + (maxL + 11) + lo ≤ R.locals) (hcat : (rest.map fun v => v.category).sum ≤ 8) (hk0 : k ≤ R.cells) (hn0 : n ≤ R.slots)
    (kk : ∀ (V' : gV), Post V' → KW E T V' p l e R s m args below meth c nL k n Q q L rest) : KW E T V p l e R s m args below meth c nL k n Q pc L st := by
  subst hq
  intro H ls locs hR hS hl
  refine va_callv (va_runS (As := As) (rest := rest) ⟨C.x, C.b, C.ml, C.ow, C.ts⟩ hM ⟨C.cb I hw rfl rfl hroom, C.ts _ hstt⟩ (C.pre hR hS) rfl hn hl.1 hst (lv_room hcat) hd ⟨hk0, hn0⟩) hS (fun q _ h => h) (fun q h => h) (fun u t H1 locs1 ht hvm hw hB hz1 hk1 hS1 => ?_)
  exact kk u hw H1 ls locs1 (ht ▸ hB.1) hS1 hl
theorem k_callSNV (pc q : Nat) (C : Cx E p s m args meth c own cc nL ret) {y : MethodName} {cc' : ByteArray} {maxL N ix : Nat} {ret' : Option FieldType} {f lo : Nat}  {Post : gV → Prop} (As rest : List Value) (hd : decode cc pc = .ok (.invokestatic ix, 3)) (hq : pc + 3 = q) (hM : CtV E T l y (gw y cc' maxL ret') { frames := f, cells := 0, slots := 0, locals := lo } As V Post) (I : MI y cc' maxL ret' N) (hw : Cond.methodLinkNest own ix y "PantographArm" ∈ nws) (hstt : Cond.static y ∈ GW) (hn : As.length = N) (hst : st = As.reverse ++ rest) (hroom : f + 1 ≤ R.frames ∧ 8 + (maxL + 11) + lo ≤ R.locals) (hcat : (rest.map fun v => v.category).sum ≤ 8) (hk0 : k ≤ R.cells) (hn0 : n ≤ R.slots)
    (kk : ∀ (V' : gV), Post V' → KW E T V' p l e R s m args below meth c nL k n Q q L rest) : KW E T V p l e R s m args below meth c nL k n Q pc L st := by
  subst hq
  intro H ls locs hR hS hl
  refine va_callv (va_runSN (As := As) (rest := rest) ⟨C.x, C.b, C.ml, C.ow, C.ts⟩ hM ⟨C.cbN I hw rfl rfl hroom, C.ts _ hstt, trivial⟩ (C.pre hR hS) rfl hn hl.1 hst (lv_room hcat) hd ⟨hk0, hn0⟩) hS (fun q _ h => h) (fun q h => h) (fun u t H1 locs1 ht hvm hw hB hz1 hk1 hS1 => ?_)
  exact kk u hw H1 ls locs1 (ht ▸ hB.1) hS1 hl
theorem k_iret (pc : Nat) (C : Cx E p s m args meth c own cc nL ret) {x : Int32} {Post : Int32 → gV → Prop} (hd : decode cc pc = .ok (.ireturn, 1)) (hr : ret = some .int)  (h : Post x V) : KW E T V p l e R s m args below meth c nL k n (MQ below (va_Qi Post (RepS E T) (gA E)) args s k n (gA E)) pc L [.int x] := by
  intro H ls locs hR hS hl
  exact W.iret C.x C.b (C.re.trans hr) (fun t ht hW => ⟨⟨x, V, rfl, h, C.out hS hR ht hW⟩, hS.F ht⟩) hS.2.2 hd C.lk
theorem k_zret (pc : Nat) (C : Cx E p s m args meth c own cc nL ret) {x : Int32} {Post : Int32 → gV → Prop} (hd : decode cc pc = .ok (.ireturn, 1)) (hr : ret = some .boolean) (hz : x = 0 ∨ x = 1) (h : Post x V) : KW E T V p l e R s m args below meth c nL k n (MQ below (va_Qi Post (RepS E T) (gA E)) args s k n (gA E)) pc L [.int x] := by
  intro H ls locs hR hS hl
  exact W.zret C.x C.b (C.re.trans hr) (by rcases hz with rfl | rfl <;> rfl) (fun t ht hW => ⟨⟨x, V, rfl, h, C.out hS hR ht hW⟩, hS.F ht⟩) hS.2.2 hd C.lk
theorem k_cret (pc : Nat) (C : Cx E p s m args meth c own cc nL ret) {x : Int32} {Post : Int32 → gV → Prop} (hd : decode cc pc = .ok (.ireturn, 1)) (hr : ret = some .char) (hz : narrow .char (.int x) = .int x) (h : Post x V) : KW E T V p l e R s m args below meth c nL k n (MQ below (va_Qi Post (RepS E T) (gA E)) args s k n (gA E)) pc L [.int x] := by
  intro H ls locs hR hS hl
  exact W.zret C.x C.b (C.re.trans hr) hz (fun t ht hW => ⟨⟨x, V, rfl, h, C.out hS hR ht hW⟩, hS.F ht⟩) hS.2.2 hd C.lk
theorem k_lret (pc : Nat) (C : Cx E p s m args meth c own cc nL ret) {x : Int64} {Post : Int64 → gV → Prop} (hd : decode cc pc = .ok (.lreturn, 1)) (hr : ret = some .long)  (h : Post x V) : KW E T V p l e R s m args below meth c nL k n (MQ below (va_Ql Post (RepS E T) (gA E)) args s k n (gA E)) pc L [.long x] := by
  intro H ls locs hR hS hl
  exact W.lret C.x C.b (C.re.trans hr) (fun t ht hW => ⟨⟨x, V, rfl, h, C.out hS hR ht hW⟩, hS.F ht⟩) hS.2.2 hd C.lk
theorem k_fret (pc : Nat) (C : Cx E p s m args meth c own cc nL ret) {x : UInt32} {Post : UInt32 → gV → Prop} (hd : decode cc pc = .ok (.freturn, 1)) (hr : ret = some .float)  (h : Post x V) : KW E T V p l e R s m args below meth c nL k n (MQ below (va_Qf Post (RepS E T) (gA E)) args s k n (gA E)) pc L [.float x] := by
  intro H ls locs hR hS hl
  exact W.fret C.x C.b (C.re.trans hr) (fun t ht hW => ⟨⟨x, V, rfl, h, C.out hS hR ht hW⟩, hS.F ht⟩) hS.2.2 hd C.lk
theorem k_aret (pc : Nat) (C : Cx E p s m args meth c own cc nL ret) {x : Option Nat} {rt : FieldType} {Post : Option Nat → gV → Prop} (hd : decode cc pc = .ok (.areturn, 1)) (hr : ret = some rt) (hrt : (∃ z, rt = .object z) ∨ ∃ z, rt = .array z) (h : Post x V) : KW E T V p l e R s m args below meth c nL k n (MQ below (va_Qq Post (RepS E T) (gA E)) args s k n (gA E)) pc L [va_rf x] := by
  intro H ls locs hR hS hl
  exact W.aret C.x C.b (C.re.trans hr) hrt (by cases x with | none => exact Or.inl rfl | some a => exact Or.inr ⟨a, rfl⟩) (fun t ht hW => ⟨⟨x, V, rfl, h, C.out hS hR ht hW⟩, hS.F ht⟩) hS.2.2 hd C.lk
theorem k_vret (pc : Nat) (C : Cx E p s m args meth c own cc nL ret)  {Post : gV → Prop} (hd : decode cc pc = .ok (.return_, 1)) (hr : ret = none)  (h : Post V) : KW E T V p l e R s m args below meth c nL k n (MQ below (va_Qv Post (RepS E T) (gA E)) args s k n (gA E)) pc L [] := by
  intro H ls locs hR hS hl
  exact W.vret C.x C.b (C.re.trans hr) (fun t ht hW => ⟨⟨V, rfl, h, C.out hS hR ht hW⟩, hS.F ht⟩) hS.2.2 hd C.lk
end CTS

