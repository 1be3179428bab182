theorem fq_self {fc : Nat} {fq : Int} (hc : NrM fc) (h1 : -149 ≤ fq) (h2 : fq ≤ 104) : FP.fcmp (mkF fc fq) (mkF fc fq) = some .eq := by
  show FP.Core.order (FP.Core.decode FP.Core.b32 (mkF fc fq).toNat) (FP.Core.decode FP.Core.b32 (mkF fc fq).toNat) = _
  rw [fq_dec hc h1 h2]
  show some (compare _ _) = _
  simp [compare, compareOfLessAndEq]
theorem fq_i1 (z : Int) (d : Int) : Int32.ofInt z + Int32.ofInt d = Int32.ofInt (z + d) := (Int32.ofInt_add z d).symm
theorem fq_bits {fc : Nat} {fq : Int} (hc : NrM fc) (h1 : -100 ≤ fq) (h2 : fq ≤ 100) : (Int32.ofInt (fq - -23) + 127) <<< ((23 : Int32) &&& 31) + nI (fc - 8388608) = (mkF fc fq).toInt32 := by
  have e1 : Int32.ofInt (fq - -23) + 127 = nI (fq + 150).toNat := by
    have z := fq_i1 (fq - -23) 127
    rw [show fq - -23 + 127 = (((fq + 150).toNat : Nat) : Int) by omega] at z
    exact z
  rw [e1, pk_shlN _ 23 (by decide) (show (fq + 150).toNat * 8388608 < 4294967296 by omega), nI_add]
  unfold mkF
  rw [fq_enc hc, show (fq + 150).toNat * 2 ^ 23 + (fc - 8388608) = ((fq + 149).toNat + 1) * 8388608 + (fc - 8388608) by omega]
  rfl
theorem Met_ofWF {l : Launch} {y : MethodName} {ws ws' : List Cond} {rm : Room} {Pc : Array Value → State → Prop} {Qc : Array Value → State → Outcome → State → Prop} {mc ms : Nat} {free : Addr → Prop} {cc : ByteArray} {maxL : Nat} {ret : Option FieldType}
    (hy : plainFor y = true) (hw : ws = Cond.code y cc maxL ret :: ws')
    (body : ∀ p e s m args below meth c s₁, BodyLoose p l y (headSpec ws rm) cc maxL ret e s m args below meth c s₁ → c.maxLocals = maxL → Pc args s →
      W p l e (headSpec ws rm).room s m args below meth c s.heap [] 0 0 (MQ below Qc args s mc ms free) (entryFrame m args maxL)) : Met l y ws rm Pc Qc mc ms free := by
  refine MetFree.of_bodySF (code := cc) (maxLocals := maxL) (ret := ret) hy ?_ ?_
  · intro args s m h hn
    obtain ⟨meth, c, h1, h2, h3, h4, h5, h6, -, -⟩ := Cond.code_spec hn (atoms_spec (ws := ws) h _ (by rw [hw]; exact List.mem_cons_self))
    exact ⟨meth, c, h1, h2, h3, h4, h5, h6⟩
  · intro p e s m args below meth c s₁ B hml hP _
    have hh0 : s₁.heap = s.heap := by rw [B.state]; rfl
    obtain ⟨t, a1, o, b1, b2, b3⟩ := body p e s m args below meth c s₁ B hml hP s₁ hh0 (Stand.of_body B)
    exact ⟨t, o, a1, b1, b2, ⟨b3.1, b3.2⟩⟩
theorem ctI_ofF {E : gE} {T : gT} {l : Launch} {y : MethodName} {rm : Room} {av : List Value} {V : gV} {Post : Int32 → gV → Prop} {maxL : Nat} {own : String} {cc : ByteArray} {ret : Option FieldType} (hy : plainFor y = true) (ho : y.cls = own) (hlen : (lg_sl av).length ≤ maxL) {L : List (Nat × Value)} (hL : lv_args 0 av = L)
    (body : ∀ (p : Program) (e : Env) (s : State) (m : MethodId) (args : Array Value) (below : List Frame) (meth : Method) (c : Code), Cx E p s m args meth c own cc maxL ret → KW E T V p l e rm s m args below meth c maxL 0 0 (MQ below (va_Qi Post (RepS E T) (gA E)) args s 0 0 (gA E)) 0 L []) : CtI E T l y (gw y cc maxL ret) rm av V Post := by
  refine Met_ofWF (cc := cc) (maxL := maxL) (ret := ret) hy rfl ?_
  intro p e s m args below meth c s₁ B hml hv
  obtain ⟨rfl, h1, h2, h3, h4, h5, h6, h7⟩ := hv
  have hts : ∀ w ∈ GW, w.before av.toArray s = true := fun w h => atoms_spec (ws := gw y cc maxL ret) B.pre w (List.mem_cons_of_mem _ h)
  have C : Cx E p s m av.toArray meth c own cc maxL ret := ⟨B.exec, B.bytes, hml, by rw [← ho]; exact findClass_of_methodNamed B.named, hts, B.notSynchronized, h3, h4, h5, h6, h2, B.returns, h7⟩
  have hl := lv_entry av (n := maxL) hlen
  rw [lg_entry_eq]
  exact body p e s m _ below meth c C s.heap _ [] h1 va_S.rf (hL ▸ hl)
set_option maxHeartbeats 4000000 in
set_option maxRecDepth 100000 in
theorem ct_X3_floatBits {E : gE} {T : gT} {l : Launch} {V : gV} {fc : Nat} {fq : Int} (hc : NrM fc) (hq1 : -60 ≤ fq) (hq2 : fq ≤ 20) : CtI E T l yX3_floatBits (gw yX3_floatBits cX3_floatBits 4 (some .int)) { frames := 0, cells := 0, slots := 0, locals := 0 } [.float (mkF fc fq)] V (fun (r : Int32) (V' : gV) => V' = V ∧ r = (mkF fc fq).toInt32) := by
  refine ctI_of (L := [(0, .float (mkF fc fq))]) (by decide) rfl (Nat.le_of_ble_eq_true rfl) rfl (fun p e s m args below meth c C => ?_)
  have loop33 : ∀ (zf : Nat) (w : Int) (j : Nat), 60 - j = zf → (w ≤ -23) → ((j : Int) - 60 ≤ w) → KW E T V p l e { frames := 0, cells := 0, slots := 0, locals := 0 } s m args below meth c 4 0 0 (MQ below (va_Qi (fun (r : Int32) (V' : gV) => V' = V ∧ r = (mkF fc fq).toInt32) (RepS E T) (gA E)) args s 0 0 (gA E)) 33 [(3, .int (nI j)), (1, .float (mkF fc w)), (2, .int (Int32.ofInt (fq - w))), (0, .float (mkF fc fq))] [] := by
    intro zf
    induction zf using Nat.strongRecOn with
    | _ zf ih =>
    intro w j zhf hw1 hw2
    refine k_iload_n 33 34 C dX3_floatBits_33 rfl 0 rfl ?_
    refine k_bipush 34 36 C dX3_floatBits_34 rfl (v := 60) rfl ?_
    refine k_icmp_ge 36 58 39 C dX3_floatBits_36 (by decide) rfl (fun h36 => ?_) (fun h36 => ?_)
    · exact absurd (show nI 60 ≤ nI j from h36) (by rw [n1k (by omega) (by omega)]; omega)
    · refine k_fload_n 39 40 C dX3_floatBits_39 rfl 1 rfl ?_
      refine k_fconst1 40 41 C dX3_floatBits_40 rfl ?_
      refine k_fcmp 41 42 C dX3_floatBits_41 rfl  ?_
      refine k_if_ge 42 58 45 C dX3_floatBits_42 (by decide) rfl (fun h42 => ?_) (fun h42 => ?_)
      · have z42 : ¬ w < -23 := fun zz => i32_not_lt.mpr h42 ((fq_lt fq_1 hc (by omega) (by omega)).mpr zz)
        obtain rfl : w = -23 := by omega
        refine k_iload_n 58 59 C dX3_floatBits_58 rfl 2 rfl ?_
        refine k_bipush 59 61 C dX3_floatBits_59 rfl (v := 127) rfl ?_
        refine k_iadd 61 62 C dX3_floatBits_61 rfl  ?_
        refine k_bipush 62 64 C dX3_floatBits_62 rfl (v := 23) rfl ?_
        refine k_ishl 64 65 C dX3_floatBits_64 rfl  ?_
        refine k_fload_n 65 66 C dX3_floatBits_65 rfl 1 rfl ?_
        refine k_fconst1 66 67 C dX3_floatBits_66 rfl ?_
        refine k_fsub 67 68 C dX3_floatBits_67 rfl (fq_dig hc).2.1 ?_
        refine k_ldcf 68 70 C dX3_floatBits_68 rfl kf_X3_245 ?_
        refine k_fmul 70 71 C dX3_floatBits_70 rfl (fq_dig hc).2.2 ?_
        refine k_f2i 71 72 C dX3_floatBits_71 rfl  ?_
        refine k_rwI (fq_dig hc).1 ?_
        refine k_iadd 72 73 C dX3_floatBits_72 rfl  ?_
        refine k_iret 73 C dX3_floatBits_73 rfl ?_
        exact ⟨rfl, fq_bits hc (by omega) (by omega)⟩
      · have z42 : w < -23 := (fq_lt fq_1 hc (by omega) (by omega)).mp (i32_not_le.mp h42)
        refine k_fload_n 45 46 C dX3_floatBits_45 rfl 1 rfl ?_
        refine k_fconst2 46 47 C dX3_floatBits_46 rfl ?_
        refine k_fmul 47 48 C dX3_floatBits_47 rfl (fq_nm fq_2 hc (by omega) (by omega)) ?_
        refine k_rwF (y := mkF fc (w + 1)) ((fq_mul fq_2 hc (by omega) (by omega) (by omega) (by omega)).trans (congrArg (mkF fc) (by omega))) ?_
        refine k_fstore_n 48 49 C [(1, _), (3, _), (2, _), (0, _)] dX3_floatBits_48 rfl (by decide) rfl ?_
        refine k_iinc 49 52 C [(2, _), (1, _), (3, _), (0, _)] (Int32.ofInt (fq - (w + 1))) dX3_floatBits_49 rfl 2 rfl ((fq_i1 _ _).trans (congrArg Int32.ofInt (by omega))) (by decide) rfl ?_
        refine k_iinc 52 55 C [(3, _), (2, _), (1, _), (0, _)] (nI (j + 1)) dX3_floatBits_52 rfl 2 rfl (nI_1 j) (by decide) rfl ?_
        refine k_goto 55 33 C dX3_floatBits_55 (by decide) ?_
        refine k_perm [0, 2, 1, 3] (L' := [(3, _), (1, _), (2, _), (0, _)]) rfl ?_
        exact ih (60 - (j + 1)) (by omega) (w + 1) (j + 1) rfl (by omega) (by omega)
  have loop6 : ∀ (zf : Nat) (w : Int) (j : Nat), 60 - j = zf → (w + j = fq) → (j = 0 ∨ -23 ≤ w) → KW E T V p l e { frames := 0, cells := 0, slots := 0, locals := 0 } s m args below meth c 4 0 0 (MQ below (va_Qi (fun (r : Int32) (V' : gV) => V' = V ∧ r = (mkF fc fq).toInt32) (RepS E T) (gA E)) args s 0 0 (gA E)) 6 [(3, .int (nI j)), (1, .float (mkF fc w)), (2, .int (Int32.ofInt (fq - w))), (0, .float (mkF fc fq))] [] := by
    intro zf
    induction zf using Nat.strongRecOn with
    | _ zf ih =>
    intro w j zhf hw1 hw2
    refine k_iload_n 6 7 C dX3_floatBits_6 rfl 0 rfl ?_
    refine k_bipush 7 9 C dX3_floatBits_7 rfl (v := 60) rfl ?_
    refine k_icmp_ge 9 31 12 C dX3_floatBits_9 (by decide) rfl (fun h9 => ?_) (fun h9 => ?_)
    · exact absurd (show nI 60 ≤ nI j from h9) (by rw [n1k (by omega) (by omega)]; omega)
    · refine k_fload_n 12 13 C dX3_floatBits_12 rfl 1 rfl ?_
      refine k_fconst2 13 14 C dX3_floatBits_13 rfl ?_
      refine k_fcmp 14 15 C dX3_floatBits_14 rfl  ?_
      refine k_if_lt 15 31 18 C dX3_floatBits_15 (by decide) rfl (fun h15 => ?_) (fun h15 => ?_)
      · have z15 : w < -22 := (fq_lt fq_2 hc (by omega) (by omega)).mp h15
        refine k_iconst 31 32 C dX3_floatBits_31 rfl (v := 0) rfl ?_
        refine k_istore_n 32 33 C [(3, _), (1, _), (2, _), (0, _)] dX3_floatBits_32 rfl (by decide) rfl ?_
        exact loop33 _ w 0 rfl (by omega) (by omega)
      · have z15 : ¬ w < -22 := fun zz => h15 ((fq_lt fq_2 hc (by omega) (by omega)).mpr zz)
        refine k_fload_n 18 19 C dX3_floatBits_18 rfl 1 rfl ?_
        refine k_fconst2 19 20 C dX3_floatBits_19 rfl ?_
        refine k_fdiv 20 21 C dX3_floatBits_20 rfl (by rw [fq_div2 hc (by omega) (by omega)]; exact fq_nn hc (by omega)) ?_
        refine k_rwF (fq_div2 hc (by omega) (by omega)) ?_
        refine k_fstore_n 21 22 C [(1, _), (3, _), (2, _), (0, _)] dX3_floatBits_21 rfl (by decide) rfl ?_
        refine k_iinc 22 25 C [(2, _), (1, _), (3, _), (0, _)] (Int32.ofInt (fq - (w - 1))) dX3_floatBits_22 rfl 2 rfl ((fq_i1 _ _).trans (congrArg Int32.ofInt (by omega))) (by decide) rfl ?_
        refine k_iinc 25 28 C [(3, _), (2, _), (1, _), (0, _)] (nI (j + 1)) dX3_floatBits_25 rfl 2 rfl (nI_1 j) (by decide) rfl ?_
        refine k_goto 28 6 C dX3_floatBits_28 (by decide) ?_
        refine k_perm [0, 2, 1, 3] (L' := [(3, _), (1, _), (2, _), (0, _)]) rfl ?_
        exact ih (60 - (j + 1)) (by omega) (w - 1) (j + 1) rfl (by omega) (by omega)
  refine k_fload_n 0 1 C dX3_floatBits_0 rfl 0 rfl ?_
  refine k_fstore_n 1 2 C [(1, _), (0, _)] dX3_floatBits_1 rfl (by decide) rfl ?_
  refine k_iconst 2 3 C dX3_floatBits_2 rfl (v := 0) rfl ?_
  refine k_istore_n 3 4 C [(2, _), (1, _), (0, _)] dX3_floatBits_3 rfl (by decide) rfl ?_
  refine k_iconst 4 5 C dX3_floatBits_4 rfl (v := 0) rfl ?_
  refine k_istore_n 5 6 C [(3, _), (2, _), (1, _), (0, _)] dX3_floatBits_5 rfl (by decide) rfl ?_
  refine k_perm [0, 2, 1, 3] (L' := [(3, _), (1, _), (2, _), (0, _)]) rfl ?_
  have z0 := loop6 _ fq 0 rfl (by omega) (Or.inl rfl)
  rw [Int.sub_self] at z0
  exact z0
def cR32 (d : Dr) : UInt32 := FP.fdiv (FP.l2f (lowL (rsc d) (rpt d) 0)) (FP.l2f (lowL (rsc d) (rpt d) 1))
def cDr (S : Dk) (i : Int32) (d : Dr) (w : Int32) : Int32 := if w = 0 then nI (rn d) else if w = 1 then (if ¬ rpa d = -1 then rpa d else -2000000004) else if w = 2 then orgF S 6 i else if w = 3 then stpF S 6 0 i else if w = 4 then rsx d else if w = 5 then rsy d else if w = 6 then nI (cntW d (rn d)) else if w = 7 then sumW d (rn d) else if w = 8 then maxW d (rn d) else if w = 9 then nI (offB S d (rn d)) else if w = 10 then (cR32 d).toInt32 else if w = 11 then FP.f2i (FP.fmul (cR32 d) 1092616192) else -2000000001
def cDrg (S : Dk) (i w : Int32) : Int32 := if inD S i then cDr S i (kdr S i.toNatClampNeg) w else -2000000001
set_option maxHeartbeats 4000000 in
set_option maxRecDepth 100000 in
theorem ct_X3_drawing {E : gE} {T : gT} {l : Launch} {V : gV} {i w : Int32} {a : Nat} {S : Dk} {h : Nat} {H : Nat → Dk} {r0 : Nat} {ρ : Nat → Nat} (hA : IsAll T a) (g : AVp V a S h H r0 ρ) (hN : ∀ j, j < kn S → ¬ lowL (rsc (kdr S j)) (rpt (kdr S j)) 1 ≤ 0 ∧ NiceF (cR32 (kdr S j))) : CtI E T l yX3_drawing (gw yX3_drawing cX3_drawing 4 (some .int)) { frames := 4, cells := 0, slots := 0, locals := 91 } [.ref a, .int i, .int w] V (fun (r : Int32) (V' : gV) => V' = V ∧ r = cDrg S i w) := by
  refine ctI_of (L := [(0, .ref a), (1, .int i), (2, .int w)]) (by decide) rfl (Nat.le_of_ble_eq_true rfl) rfl (fun p e s m args below meth c C => ?_)
  obtain ⟨π, hk⟩ := g.dk
  have hD := hA.2 _ g.r5
  have ha := hA.a
  have zn6 := hk.le
  refine k_aload_n 0 1 C dX3_drawing_0 rfl 0 rfl ?_
  refine k_get 1 4 C dX3_drawing_1 rfl ci_X3 0 fl_X3_10 (IsArm.o ‹_›) (by decide) rfl ?_
  refine k_rwQ (g.now) ?_
  refine k_iload_n 4 5 C dX3_drawing_4 rfl 1 rfl ?_
  refine k_callVQ 5 8 C [_] [] dX3_drawing_5 rfl (ct_X0_find hD hk) mi_X0_find ml_X3_100 im_X0_find se_X0_find ci_X0 (IsDsk.o ‹_›) rfl rfl ⟨Nat.le_of_ble_eq_true rfl, Nat.le_of_ble_eq_true rfl⟩ (Nat.le_of_ble_eq_true rfl) (Nat.zero_le _) (Nat.zero_le _) (fun r5 V5 p5 => ?_)
  obtain ⟨rfl, rfl⟩ := And.intro p5.1.symm p5.2
  rcases sFind_cases (dAd a r0) S π hk.le i with ⟨zc, zr⟩ | ⟨j, zj, rfl, zr⟩
  · refine k_rwQ zr ?_
    refine k_astore_nq 8 9 C [(3, _), (0, _), (1, _), (2, _)] dX3_drawing_8 rfl (by decide) rfl ?_
    refine k_aload_nq 9 10 C dX3_drawing_9 rfl 0 rfl ?_
    refine k_ifnonnullN 10 13 C dX3_drawing_10 rfl ?_
    refine k_ldc 13 15 C dX3_drawing_13 rfl kc_X3_35 ?_
    refine k_iret 15 C dX3_drawing_15 rfl ?_
    exact ⟨rfl, by unfold cDrg; rw [if_neg zc]⟩
  · refine k_rwQ zr ?_
    have zq := hD.d (π j) (hk.p j (by omega))
    have zv := hk.d j zj
    have zi : inD S (nI j) := jin hk.le zj
    have zcl : (nI j).toNatClampNeg = j := nI_clamp (by omega)
    refine k_astore_n 8 9 C [(3, _), (0, _), (1, _), (2, _)] dX3_drawing_8 rfl (by decide) rfl ?_
    refine k_aload_n 9 10 C dX3_drawing_9 rfl 0 rfl ?_
    refine k_ifnonnullO 10 16 C dX3_drawing_10 (by decide) ?_
    obtain ⟨zn0, fc, fq, zf1, zf2, zf3, zf4⟩ := hN j zj
    have zn32 : vf_n32 (cR32 (kdr S j)) := by rw [zf4]; exact fq_nn zf1 (by omega)
    have zr32 : (if lowL (rsc (kdr S j)) (rpt (kdr S j)) 1 ≤ 0 then FP.fconst1 else cR32 (kdr S j)) = mkF fc fq := by rw [if_neg zn0]; exact zf4
    refine k_iload_n 16 17 C dX3_drawing_16 rfl 3 rfl ?_
    refine k_switch12 17 C (fun h17 => ?_) (fun h17 => ?_) (fun h17 => ?_) (fun h17 => ?_) (fun h17 => ?_) (fun h17 => ?_) (fun h17 => ?_) (fun h17 => ?_) (fun h17 => ?_) (fun h17 => ?_) (fun h17 => ?_) (fun h17 => ?_) (fun h17 => ?_)
    · refine k_tabOut 17 171 C dX3_drawing_17 h17 (by decide) ?_
      refine k_ldc 171 173 C dX3_drawing_171 rfl kc_X3_35 ?_
      refine k_iret 173 C dX3_drawing_173 rfl ?_
      exact ⟨rfl, by unfold cDrg cDr; rw [zcl, if_pos zi]; simp [sw_no (z := 0) h17, sw_no (z := 1) h17, sw_no (z := 2) h17, sw_no (z := 3) h17, sw_no (z := 4) h17, sw_no (z := 5) h17, sw_no (z := 6) h17, sw_no (z := 7) h17, sw_no (z := 8) h17, sw_no (z := 9) h17, sw_no (z := 10) h17, sw_no (z := 11) h17]⟩
    · refine k_tabAt 17 80 C dX3_drawing_17 (z := 0) h17 rfl rfl rfl (by decide) ?_
      refine k_aload_n 80 81 C dX3_drawing_80 rfl 0 rfl ?_
      refine k_getN 81 84 C dX3_drawing_81 rfl ci_X1 7 fn_X3_121 (IsDrw.o zq) (by decide) rfl ?_
      refine k_rwI (zv.f7) ?_
      refine k_iret 84 C dX3_drawing_84 rfl ?_
      exact ⟨rfl, by unfold cDrg cDr; rw [zcl, if_pos zi, h17]; simp []⟩
    · refine k_tabAt 17 85 C dX3_drawing_17 (z := 1) h17 rfl rfl rfl (by decide) ?_
      refine k_aload_n 85 86 C dX3_drawing_85 rfl 0 rfl ?_
      refine k_callVI 86 89 C [] [] dX3_drawing_86 rfl (ct_X1_isCopy zq zv) mi_X1_isCopy ml_X3_104 im_X1_isCopy se_X1_isCopy ci_X1 (IsDrw.o zq) rfl rfl ⟨Nat.le_of_ble_eq_true rfl, Nat.le_of_ble_eq_true rfl⟩ (Nat.le_of_ble_eq_true rfl) (Nat.zero_le _) (Nat.zero_le _) (fun r86 V86 p86 => ?_)
      obtain ⟨rfl, rfl⟩ := And.intro p86.1.symm p86.2
      refine k_ifb_eq 89 99 92 C dX3_drawing_89 (by decide) rfl (fun h89 => ?_) (fun h89 => ?_)
      · refine k_ldc 99 101 C dX3_drawing_99 rfl kc_X3_136 ?_
        refine k_iret 101 C dX3_drawing_101 rfl ?_
        exact ⟨rfl, by unfold cDrg cDr; rw [zcl, if_pos zi, h17]; simp [h89]⟩
      · refine k_aload_n 92 93 C dX3_drawing_92 rfl 0 rfl ?_
        refine k_getN 93 96 C dX3_drawing_93 rfl ci_X1 0 fn_X3_133 (IsDrw.o zq) (by decide) rfl ?_
        refine k_rwI (zv.f0) ?_
        refine k_goto 96 101 C dX3_drawing_96 (by decide) ?_
        refine k_iret 101 C dX3_drawing_101 rfl ?_
        exact ⟨rfl, by unfold cDrg cDr; rw [zcl, if_pos zi, h17]; simp [h89]⟩
    · refine k_tabAt 17 102 C dX3_drawing_17 (z := 2) h17 rfl rfl rfl (by decide) ?_
      refine k_aload_n 102 103 C dX3_drawing_102 rfl 1 rfl ?_
      refine k_get 103 106 C dX3_drawing_103 rfl ci_X3 0 fl_X3_10 (IsArm.o ‹_›) (by decide) rfl ?_
      refine k_rwQ (g.now) ?_
      refine k_iload_n 106 107 C dX3_drawing_106 rfl 2 rfl ?_
      refine k_callVI 107 110 C [_] [] dX3_drawing_107 rfl (ct_X0_originalOf hD hk) mi_X0_originalOf ml_X3_137 im_X0_originalOf se_X0_originalOf ci_X0 (IsDsk.o ‹_›) rfl rfl ⟨Nat.le_of_ble_eq_true rfl, Nat.le_of_ble_eq_true rfl⟩ (Nat.le_of_ble_eq_true rfl) (Nat.zero_le _) (Nat.zero_le _) (fun r107 V107 p107 => ?_)
      obtain ⟨rfl, rfl⟩ := And.intro p107.1.symm p107.2
      refine k_iret 110 C dX3_drawing_110 rfl ?_
      exact ⟨rfl, by unfold cDrg cDr; rw [zcl, if_pos zi, h17]; simp []⟩
    · refine k_tabAt 17 111 C dX3_drawing_17 (z := 3) h17 rfl rfl rfl (by decide) ?_
      refine k_aload_n 111 112 C dX3_drawing_111 rfl 1 rfl ?_
      refine k_get 112 115 C dX3_drawing_112 rfl ci_X3 0 fl_X3_10 (IsArm.o ‹_›) (by decide) rfl ?_
      refine k_rwQ (g.now) ?_
      refine k_iload_n 115 116 C dX3_drawing_115 rfl 2 rfl ?_
      refine k_callVI 116 119 C [_] [] dX3_drawing_116 rfl (ct_X0_stepsOf hD hk) mi_X0_stepsOf ml_X3_140 im_X0_stepsOf se_X0_stepsOf ci_X0 (IsDsk.o ‹_›) rfl rfl ⟨Nat.le_of_ble_eq_true rfl, Nat.le_of_ble_eq_true rfl⟩ (Nat.le_of_ble_eq_true rfl) (Nat.zero_le _) (Nat.zero_le _) (fun r116 V116 p116 => ?_)
      obtain ⟨rfl, rfl⟩ := And.intro p116.1.symm p116.2
      refine k_iret 119 C dX3_drawing_119 rfl ?_
      exact ⟨rfl, by unfold cDrg cDr; rw [zcl, if_pos zi, h17]; simp []⟩
    · refine k_tabAt 17 120 C dX3_drawing_17 (z := 4) h17 rfl rfl rfl (by decide) ?_
      refine k_aload_n 120 121 C dX3_drawing_120 rfl 0 rfl ?_
      refine k_getN 121 124 C dX3_drawing_121 rfl ci_X1 3 fn_X3_143 (IsDrw.o zq) (by decide) rfl ?_
      refine k_rwI (zv.f3) ?_
      refine k_iret 124 C dX3_drawing_124 rfl ?_
      exact ⟨rfl, by unfold cDrg cDr; rw [zcl, if_pos zi, h17]; simp []⟩
    · refine k_tabAt 17 125 C dX3_drawing_17 (z := 5) h17 rfl rfl rfl (by decide) ?_
      refine k_aload_n 125 126 C dX3_drawing_125 rfl 0 rfl ?_
      refine k_getN 126 129 C dX3_drawing_126 rfl ci_X1 4 fn_X3_146 (IsDrw.o zq) (by decide) rfl ?_
      refine k_rwI (zv.f4) ?_
      refine k_iret 129 C dX3_drawing_129 rfl ?_
      exact ⟨rfl, by unfold cDrg cDr; rw [zcl, if_pos zi, h17]; simp []⟩
    · refine k_tabAt 17 130 C dX3_drawing_17 (z := 6) h17 rfl rfl rfl (by decide) ?_
      refine k_aload_n 130 131 C dX3_drawing_130 rfl 0 rfl ?_
      refine k_callVI 131 134 C [] [] dX3_drawing_131 rfl (ct_X1_drawnLines zq zv) mi_X1_drawnLines ml_X3_149 im_X1_drawnLines se_X1_drawnLines ci_X1 (IsDrw.o zq) rfl rfl ⟨Nat.le_of_ble_eq_true rfl, Nat.le_of_ble_eq_true rfl⟩ (Nat.le_of_ble_eq_true rfl) (Nat.zero_le _) (Nat.zero_le _) (fun r131 V131 p131 => ?_)
      obtain ⟨rfl, rfl⟩ := And.intro p131.1.symm p131.2
      refine k_iret 134 C dX3_drawing_134 rfl ?_
      exact ⟨rfl, by unfold cDrg cDr; rw [zcl, if_pos zi, h17]; simp []⟩
    · refine k_tabAt 17 135 C dX3_drawing_17 (z := 7) h17 rfl rfl rfl (by decide) ?_
      refine k_aload_n 135 136 C dX3_drawing_135 rfl 0 rfl ?_
      refine k_callVI 136 139 C [] [] dX3_drawing_136 rfl (ct_X1_drawnLength zq zv) mi_X1_drawnLength ml_X3_151 im_X1_drawnLength se_X1_drawnLength ci_X1 (IsDrw.o zq) rfl rfl ⟨Nat.le_of_ble_eq_true rfl, Nat.le_of_ble_eq_true rfl⟩ (Nat.le_of_ble_eq_true rfl) (Nat.zero_le _) (Nat.zero_le _) (fun r136 V136 p136 => ?_)
      obtain ⟨rfl, rfl⟩ := And.intro p136.1.symm p136.2
      refine k_iret 139 C dX3_drawing_139 rfl ?_
      exact ⟨rfl, by unfold cDrg cDr; rw [zcl, if_pos zi, h17]; simp []⟩
    · refine k_tabAt 17 140 C dX3_drawing_17 (z := 8) h17 rfl rfl rfl (by decide) ?_
      refine k_aload_n 140 141 C dX3_drawing_140 rfl 0 rfl ?_
      refine k_callVI 141 144 C [] [] dX3_drawing_141 rfl (ct_X1_greatestWidth zq zv) mi_X1_greatestWidth ml_X3_153 im_X1_greatestWidth se_X1_greatestWidth ci_X1 (IsDrw.o zq) rfl rfl ⟨Nat.le_of_ble_eq_true rfl, Nat.le_of_ble_eq_true rfl⟩ (Nat.le_of_ble_eq_true rfl) (Nat.zero_le _) (Nat.zero_le _) (fun r141 V141 p141 => ?_)
      obtain ⟨rfl, rfl⟩ := And.intro p141.1.symm p141.2
      refine k_iret 144 C dX3_drawing_144 rfl ?_
      exact ⟨rfl, by unfold cDrg cDr; rw [zcl, if_pos zi, h17]; simp []⟩
    · refine k_tabAt 17 145 C dX3_drawing_17 (z := 9) h17 rfl rfl rfl (by decide) ?_
      refine k_aload_n 145 146 C dX3_drawing_145 rfl 1 rfl ?_
      refine k_get 146 149 C dX3_drawing_146 rfl ci_X3 0 fl_X3_10 (IsArm.o ‹_›) (by decide) rfl ?_
      refine k_rwQ (g.now) ?_
      refine k_aload_n 149 150 C dX3_drawing_149 rfl 0 rfl ?_
      refine k_callVI 150 153 C [_] [] dX3_drawing_150 rfl (ct_X0_pointsOffBoard hD hk zq zv) mi_X0_pointsOffBoard ml_X3_156 im_X0_pointsOffBoard se_X0_pointsOffBoard ci_X0 (IsDsk.o ‹_›) rfl rfl ⟨Nat.le_of_ble_eq_true rfl, Nat.le_of_ble_eq_true rfl⟩ (Nat.le_of_ble_eq_true rfl) (Nat.zero_le _) (Nat.zero_le _) (fun r150 V150 p150 => ?_)
      obtain ⟨rfl, rfl⟩ := And.intro p150.1.symm p150.2
      refine k_iret 153 C dX3_drawing_153 rfl ?_
      exact ⟨rfl, by unfold cDrg cDr; rw [zcl, if_pos zi, h17]; simp []⟩
    · refine k_tabAt 17 154 C dX3_drawing_17 (z := 10) h17 rfl rfl rfl (by decide) ?_
      refine k_aload_n 154 155 C dX3_drawing_154 rfl 0 rfl ?_
      refine k_callVF 155 158 C [] [] dX3_drawing_155 rfl (ct_X1_ratioAsFloat zq zv (fun _ => zn32)) mi_X1_ratioAsFloat ml_X3_160 im_X1_ratioAsFloat se_X1_ratioAsFloat ci_X1 (IsDrw.o zq) rfl rfl ⟨Nat.le_of_ble_eq_true rfl, Nat.le_of_ble_eq_true rfl⟩ (Nat.le_of_ble_eq_true rfl) (Nat.zero_le _) (Nat.zero_le _) (fun r155 V155 p155 => ?_)
      obtain ⟨rfl, rfl⟩ := And.intro p155.1.symm p155.2
      refine k_rwF zr32 ?_
      refine k_callSI 158 161 C [_] [] dX3_drawing_158 rfl (ct_X3_floatBits zf1 zf2 zf3) mi_X3_floatBits ml_X3_164 st_X3_floatBits rfl rfl ⟨Nat.le_of_ble_eq_true rfl, Nat.le_of_ble_eq_true rfl⟩ (Nat.le_of_ble_eq_true rfl) (Nat.zero_le _) (Nat.zero_le _) (fun r158 V158 p158 => ?_)
      obtain ⟨rfl, rfl⟩ := And.intro p158.1.symm p158.2
      refine k_iret 161 C dX3_drawing_161 rfl ?_
      exact ⟨rfl, by unfold cDrg cDr; rw [zcl, if_pos zi, h17, ← zf4]; simp⟩
    · refine k_tabAt 17 162 C dX3_drawing_17 (z := 11) h17 rfl rfl rfl (by decide) ?_
      refine k_aload_n 162 163 C dX3_drawing_162 rfl 0 rfl ?_
      refine k_callVF 163 166 C [] [] dX3_drawing_163 rfl (ct_X1_ratioAsFloat zq zv (fun _ => zn32)) mi_X1_ratioAsFloat ml_X3_160 im_X1_ratioAsFloat se_X1_ratioAsFloat ci_X1 (IsDrw.o zq) rfl rfl ⟨Nat.le_of_ble_eq_true rfl, Nat.le_of_ble_eq_true rfl⟩ (Nat.le_of_ble_eq_true rfl) (Nat.zero_le _) (Nat.zero_le _) (fun r163 V163 p163 => ?_)
      obtain ⟨rfl, rfl⟩ := And.intro p163.1.symm p163.2
      refine k_rwF zr32 ?_
      refine k_ldcf 166 168 C dX3_drawing_166 rfl kf_X3_168 ?_
      refine k_fmul 168 169 C dX3_drawing_168 rfl (fq_nm fq_10 zf1 (by omega) (by omega)) ?_
      refine k_f2i 169 170 C dX3_drawing_169 rfl  ?_
      refine k_iret 170 C dX3_drawing_170 rfl ?_
      exact ⟨rfl, by unfold cDrg cDr; rw [zcl, if_pos zi, h17, ← zf4]; simp⟩
def mRF (f : Nat → Int64) (d : Nat) : UInt32 := FP.fdiv (FP.l2f (f (hdC d 2))) (FP.l2f (f (hdC d 3)))
