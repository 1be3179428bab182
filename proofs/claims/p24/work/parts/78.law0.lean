/-! the law's own small methods -/
theorem mi_L_lot : MI yL_lot cL_lot 2 (some .int) 2 := ⟨cd_L_lot, ini_L, by decide +kernel, by decide +kernel, by decide +kernel⟩
theorem mi_L_low : MI yL_low cL_low 2 (some .int) 2 := ⟨cd_L_low, ini_L, by decide +kernel, by decide +kernel, by decide +kernel⟩
theorem mi_L_common : MI yL_common cL_common 10 (some .long) 2 := ⟨cd_L_common, ini_L, by decide +kernel, by decide +kernel, by decide +kernel⟩
theorem mi_L_sound : MI yL_sound cL_sound 21 (some .boolean) 1 := ⟨cd_L_sound, ini_L, by decide +kernel, by decide +kernel, by decide +kernel⟩
theorem mi_L_copies : MI yL_copies cL_copies 41 (some .boolean) 2 := ⟨cd_L_copies, ini_L, by decide +kernel, by decide +kernel, by decide +kernel⟩
theorem mi_L_refuses : MI yL_refuses cL_refuses 4 (some .boolean) 1 := ⟨cd_L_refuses, ini_L, by decide +kernel, by decide +kernel, by decide +kernel⟩
theorem k_ishr {E : gE} {T : gT} {V : gV} {p : Program} {l : Launch} {e : Env} {R : Room} {s : State} {m : MethodId} {args : Array Value} {below : List Frame} {meth : Method} {c : Code} {own : String} {cc : ByteArray} {nL : Nat} {ret : Option FieldType} {k n : Nat} {Q : State → Prop} {L : List (Nat × Value)} {st : List Value} (pc q : Nat) (C : Cx E p s m args meth c own cc nL ret) {x y : Int32} (hd : decode cc pc = .ok (.ishr, 1)) (hq : pc + 1 = q) (K : KW E T V p l e R s m args below meth c nL k n Q q L (.int (x >>> (y &&& 31)) :: st)) : KW E T V p l e R s m args below meth c nL k n Q pc L (.int y :: .int x :: st) := by
  subst hq
  intro H ls locs hR hS hl
  exact lv_ishr C.x C.b hd (K H ls locs hR hS hl)
theorem k_slX {E : gE} {T : gT} {V : gV} {p : Program} {l : Launch} {e : Env} {R : Room} {s : State} {m : MethodId} {args : Array Value} {below : List Frame} {meth : Method} {c : Code} {own : String} {cc : ByteArray} {nL : Nat} {ret : Option FieldType} {k n : Nat} {Q : State → Prop} {L : List (Nat × Value)} {st : List Value} (pc q : Nat) (C : Cx E p s m args meth c own cc nL ret) {b L0 : Nat} {xs : Nat → Int32} (hX : va_X b L0 xs s s.heap) (hb : b < gB E) (hd : decode cc pc = .ok (.arraylength, 1)) (hq : pc + 1 = q) (K : KW E T V p l e R s m args below meth c nL k n Q q L (.int (Int32.ofNat L0) :: st)) : KW E T V p l e R s m args below meth c nL k n Q pc L (.ref b :: st) := by
  subst hq
  intro H ls locs hR hS hl
  exact va_slen C.x C.b hX (Nat.lt_of_lt_of_le hb C.bs) (Nat.not_le.mpr hb) hS hd (K H ls locs hR hS hl)
theorem k_sdX {E : gE} {T : gT} {V : gV} {p : Program} {l : Launch} {e : Env} {R : Room} {s : State} {m : MethodId} {args : Array Value} {below : List Frame} {meth : Method} {c : Code} {own : String} {cc : ByteArray} {nL : Nat} {ret : Option FieldType} {k n : Nat} {Q : State → Prop} {L : List (Nat × Value)} {st : List Value} (pc q : Nat) (C : Cx E p s m args meth c own cc nL ret) {b L0 : Nat} {xs : Nat → Int32} {j : Nat} (hX : va_X b L0 xs s s.heap) (hb : b < gB E) (hj : j < L0) (hL : L0 ≤ 260) (hd : decode cc pc = .ok (.iaload, 1)) (hq : pc + 1 = q) (K : KW E T V p l e R s m args below meth c nL k n Q q L (.int (xs j) :: st)) : KW E T V p l e R s m args below meth c nL k n Q pc L (.int (nI j) :: .ref b :: st) := by
  subst hq
  intro H ls locs hR hS hl
  have hz : (nI j).toNatClampNeg = j := nI_clamp (by omega)
  refine va_sld C.x C.b hX (Nat.lt_of_lt_of_le hb C.bs) (Nat.not_le.mpr hb) hS (vp_in_nI hj (by omega)) hd ?_
  rw [hz]
  exact K H ls locs hR hS hl
/-- a start that has the script too -/
def RepX (E : gE) (T : gT) (b L0 : Nat) (xs : Nat → Int32) (V : gV) (U : State) : Prop := RepS E T V U ∧ va_X b L0 xs U U.heap ∧ b < gB E
theorem RepX.blind {E : gE} {T : gT} {b L0 : Nat} {xs : Nat → Int32} {V : gV} {av : List Value} : FrameBlind (va_Pc av (RepX E T b L0 xs V)) := by
  intro a U g mk h
  obtain ⟨h0, hR, hX, hb⟩ := h
  obtain ⟨g0, gR⟩ := RepS.blind (E := E) (T := T) (V := V) (av := av) a U g mk ⟨h0, hR⟩
  have z : U.vm.Alike (U.calling g mk a).vm := Vm.Alike.refl U.vm
  exact ⟨g0, gR, hX.moved z, hb⟩
set_option maxHeartbeats 4000000 in
set_option maxRecDepth 100000 in
theorem ct_L_lot {E : gE} {T : gT} {l : Launch} {V : gV} {b L0 j : Nat} {xs : Nat → Int32} (hL : L0 ≤ 260) (hj : j < 1000) : Met l yL_lot (gw yL_lot cL_lot 2 (some .int)) { frames := 0, cells := 0, slots := 0, locals := 0 } (va_Pc [.ref b, .int (nI j)] (RepX E T b L0 xs V)) (va_Qi (fun (r : Int32) (V' : gV) => V' = V) (RepS E T) (gA E)) 0 0 (gA E) := by
  refine Met.ofW (cc := cL_lot) (maxL := 2) (ret := some .int) (by decide) rfl ?_
  intro p e s m args below meth c s₁ B hml hv
  obtain ⟨rfl, ⟨h1, h2, h3, h4, h5, h6, h7⟩, hX, hbb⟩ := hv
  have hts : ∀ w ∈ GW, w.before [Value.ref b, Value.int (nI j)].toArray s = true := fun w h => atoms_spec (ws := gw yL_lot cL_lot 2 (some .int)) B.pre w (List.mem_cons_of_mem _ h)
  have C : Cx E p s m [Value.ref b, Value.int (nI j)].toArray meth c RL cL_lot 2 (some .int) := ⟨B.exec, B.bytes, hml, findClass_of_methodNamed B.named, hts, B.notSynchronized, h3, h4, h5, h6, h2, B.returns, h7⟩
  have hl := lv_entry [Value.ref b, Value.int (nI j)] (n := 2) (Nat.le_of_ble_eq_true rfl)
  rw [lg_entry_eq]
  have K : KW E T V p l e { frames := 0, cells := 0, slots := 0, locals := 0 } s m [Value.ref b, Value.int (nI j)].toArray below meth c 2 0 0 (MQ below (va_Qi (fun (r : Int32) (V' : gV) => V' = V) (RepS E T) (gA E)) [Value.ref b, Value.int (nI j)].toArray s 0 0 (gA E)) 0 [(0, .ref b), (1, .int (nI j))] [] := by
    refine k_iload_n 0 1 C dL_lot_0 rfl 1 rfl ?_
    refine k_aload_n 1 2 C dL_lot_1 rfl 0 rfl ?_
    refine k_slX 2 3 C hX hbb dL_lot_2 rfl ?_
    refine k_icmp_ge 3 12 6 C dL_lot_3 (by decide) rfl (fun h3 => ?_) (fun h3 => ?_)
    · refine k_ldc 12 14 C dL_lot_12 rfl kc_L_7 ?_
      refine k_iload_n 14 15 C dL_lot_14 rfl 1 rfl ?_
      refine k_sipush 15 18 C dL_lot_15 rfl (v := 2237) rfl ?_
      refine k_iadd 18 19 C dL_lot_18 rfl ?_
      refine k_imul 19 20 C dL_lot_19 rfl ?_
      refine k_sipush 20 23 C dL_lot_20 rfl (v := 2027) rfl ?_
      refine k_iadd 23 24 C dL_lot_23 rfl ?_
      exact k_iret 24 C dL_lot_24 rfl rfl
    · refine k_aload_n 6 7 C dL_lot_6 rfl 0 rfl ?_
      refine k_iload_n 7 8 C dL_lot_7 rfl 1 rfl ?_
      refine k_sdX 8 9 C hX hbb (by
        rcases Nat.lt_or_ge j L0 with z | z
        · exact z
        · exact absurd ((nI_leI (a := L0) (b := j) (by omega) (by omega)).mpr z) h3) hL dL_lot_8 rfl ?_
      refine k_goto 9 24 C dL_lot_9 (by decide) ?_
      exact k_iret 24 C dL_lot_24 rfl rfl
  exact K s.heap _ [] h1 va_S.rf hl
theorem k_callLot {E : gE} {T : gT} {V : gV} {p : Program} {l : Launch} {e : Env} {R : Room} {s : State} {m : MethodId} {args : Array Value} {below : List Frame} {meth : Method} {c : Code} {own : String} {cc : ByteArray} {nL : Nat} {ret : Option FieldType} {k n : Nat} {Q : State → Prop} {L : List (Nat × Value)} {st : List Value} (pc q : Nat) (C : Cx E p s m args meth c own cc nL ret) {ix b L0 j : Nat} {xs : Nat → Int32} (hX : va_X b L0 xs s s.heap) (hb : b < gB E) (hL : L0 ≤ 260) (hj : j < 1000) (hd : decode cc pc = .ok (.invokestatic ix, 3)) (hq : pc + 3 = q) (hw : Cond.methodLink own ix yL_lot ∈ GW) (hroom : 0 + 1 ≤ R.frames ∧ 8 + (2 + 11) + 0 ≤ R.locals) (hcat : (st.map fun v => v.category).sum ≤ 8) (hk0 : k ≤ R.cells) (hn0 : n ≤ R.slots)
    (kk : ∀ r : Int32, KW E T V p l e R s m args below meth c nL k n Q q L (.int r :: st)) : KW E T V p l e R s m args below meth c nL k n Q pc L (.int (nI j) :: .ref b :: st) := by
  subst hq
  intro H ls locs hR hS hl
  refine va_calli (va_runS (As := [.ref b, .int (nI j)]) (rest := st) ⟨C.x, C.b, C.ml, C.ow, C.ts⟩ (ct_L_lot (E := E) (T := T) (V := V) (b := b) (xs := xs) hL hj) ⟨C.cb mi_L_lot hw rfl rfl hroom, C.ts _ st_L_lot⟩ ⟨RepX.blind, fun U hU hW => ⟨rfl, C.out hS hR hU hW, by
    rw [hU]
    exact (hX.kept (hS.2.1 b (Nat.lt_of_lt_of_le hb C.bs) (Nat.not_le.mpr hb))).moved hW.alike, hb⟩⟩ rfl rfl hl.1 rfl (lv_room hcat) hd ⟨hk0, hn0⟩) hS (fun q _ h => h) (fun q h => h) (fun r u t H1 locs1 ht hvm hw hB hz1 hk1 hS1 => ?_)
  obtain rfl : u = V := hw
  exact kk r H1 ls locs1 (ht ▸ hB.1) hS1 hl
/-- what low answers -/
def lw (v : Int32) (n : Nat) : Nat := v.toBitVec.toNat % 2 ^ 31 % n
theorem lw_lt {v : Int32} {n : Nat} (h : 0 < n) : lw v n < n := Nat.mod_lt _ h
set_option maxHeartbeats 4000000 in
set_option maxRecDepth 100000 in
theorem ct_L_low {E : gE} {T : gT} {l : Launch} {V : gV} {v : Int32} {zm : Nat} (hz0 : 0 < zm) (hz1 : zm < 2147483648) : CtI E T l yL_low (gw yL_low cL_low 2 (some .int)) { frames := 0, cells := 0, slots := 0, locals := 0 } [.int v, .int (nI zm)] V (fun (r : Int32) (V' : gV) => V' = V ∧ r = nI (lw v zm)) := by
  refine ctI_of (L := [(0, .int v), (1, .int (nI zm))]) (by decide) rfl (Nat.le_of_ble_eq_true rfl) rfl (fun p e s m args below meth c C => ?_)
  refine k_iload_n 0 1 C dL_low_0 rfl 0 rfl ?_
  refine k_ldc 1 3 C dL_low_1 rfl kc_L_8 ?_
  refine k_iand 3 4 C dL_low_3 rfl  ?_
  refine k_rwI (pk_and v 31 (by decide)) ?_
  refine k_iload_n 4 5 C dL_low_4 rfl 1 rfl ?_
  refine k_irem 5 6 C dL_low_5 rfl (fun zz => by have z2 := (nI_eq (a := zm) (b := 0) (by omega) (by decide)).mp zz; omega) ?_
  refine k_rwI (pk_rem (Nat.mod_lt _ (by decide)) hz0 (by omega)) ?_
  refine k_iret 6 C dL_low_6 rfl ?_
  exact ⟨rfl, rfl⟩
set_option maxHeartbeats 4000000 in
set_option maxRecDepth 100000 in
theorem ct_L_common {E : gE} {T : gT} {l : Launch} {V : gV} {za zb : Int} (ha : Bd za) (hb : Bd zb) (hb0 : 0 ≤ zb) : CtL E T l yL_common (gw yL_common cL_common 10 (some .long)) { frames := 0, cells := 0, slots := 0, locals := 0 } [.long (J za), .long (J zb)] V (fun (r : Int64) (V' : gV) => V' = V ∧ r = J (Int.gcd za zb : Int)) := by
  refine ctL_of (L := [(0, .long (J za)), (2, .long (J zb))]) (by decide) rfl (Nat.le_of_ble_eq_true rfl) rfl (fun p e s m args below meth c C => ?_)
  have loop17 : ∀ (f : Nat) (u v : Nat) (hu : u < 2 ^ 63) (hv : v < 2 ^ 63), v = f → (Nat.gcd u v = Int.gcd za zb) → KW E T V p l e { frames := 0, cells := 0, slots := 0, locals := 0 } s m args below meth c 10 0 0 (MQ below (va_Ql (fun (r : Int64) (V' : gV) => V' = V ∧ r = J (Int.gcd za zb : Int)) (RepS E T) (gA E)) args s 0 0 (gA E)) 17 [(6, .long (lN v)), (4, .long (lN u)), (0, .long (J za)), (2, .long (J zb))] [] := by
    intro f
    induction f using Nat.strongRecOn with
    | _ f ih =>
    intro u v hu hv hf hg
    refine k_lload 17 19 C dL_common_17 rfl 0 rfl ?_
    refine k_lconst 19 20 C dL_common_19 rfl (v := 0) rfl ?_
    refine k_lcmp_le 20 21 42 24 C dL_common_20 rfl dL_common_21 (by decide) rfl (fun h21 => ?_) (fun h21 => ?_)
    · have z0 : v ≤ 0 := (pk_lLE (a := v) (b := 0) hv (by decide)).mp h21
      refine k_lload 42 44 C dL_common_42 rfl 1 rfl ?_
      refine k_lret 44 C dL_common_44 rfl ?_
      obtain rfl : v = 0 := by omega
      exact ⟨rfl, by rw [← hg, Nat.gcd_zero_right]; rfl⟩
    · have z0 : 0 < v := Nat.lt_of_not_le (fun zz => h21 ((pk_lLE (a := v) (b := 0) hv (by decide)).mpr zz))
      refine k_lload 24 26 C dL_common_24 rfl 1 rfl ?_
      refine k_lload 26 28 C dL_common_26 rfl 0 rfl ?_
      refine k_lrem 28 29 C dL_common_28 rfl (fun zz => by have z2 := (pk_lEQ (a := v) (b := 0) hv (by decide)).mp zz; omega) ?_
      refine k_rwL (pk_lRem hu z0 hv) ?_
      refine k_lstore 29 31 C [(8, _), (6, _), (4, _), (0, _), (2, _)] dL_common_29 rfl (by decide) rfl ?_
      refine k_lload 31 33 C dL_common_31 rfl 1 rfl ?_
      refine k_lstore 33 35 C [(4, _), (8, _), (6, _), (0, _), (2, _)] dL_common_33 rfl (by decide) rfl ?_
      refine k_lload 35 37 C dL_common_35 rfl 1 rfl ?_
      refine k_lstore 37 39 C [(6, _), (4, _), (8, _), (0, _), (2, _)] dL_common_37 rfl (by decide) rfl ?_
      refine k_goto 39 17 C dL_common_39 (by decide) ?_
      refine k_perm [0, 1, 3, 4] (L' := [(6, _), (4, _), (0, _), (2, _)]) rfl ?_
      have zm := Nat.mod_lt u (show 0 < v by omega)
      exact ih (u % v) (hf ▸ zm) v (u % v) hv (by omega) rfl (by rw [← hg, Nat.gcd_comm, ← Nat.gcd_rec, Nat.gcd_comm])
  refine k_lload_n 0 1 C dL_common_0 rfl 0 rfl ?_
  refine k_lconst 1 2 C dL_common_1 rfl (v := 0) rfl ?_
  refine k_lcmp_ge 2 3 11 6 C dL_common_2 rfl dL_common_3 (by decide) rfl (fun h3 => ?_) (fun h3 => ?_)
  · refine k_lload_n 11 12 C dL_common_11 rfl 0 rfl ?_
    have zl : 0 ≤ za := (J_le (a := 0) ⟨by decide, by decide⟩ ha).mp h3
    refine k_rwL (y := lN za.natAbs) (by rw [J_nn zl, show za.toNat = za.natAbs by omega]) ?_
    refine k_lstore 12 14 C [(4, _), (0, _), (2, _)] dL_common_12 rfl (by decide) rfl ?_
    refine k_lload_n 14 15 C dL_common_14 rfl 2 rfl ?_
    refine k_rwL (y := lN zb.natAbs) (by rw [J_nn hb0, show zb.toNat = zb.natAbs by omega]) ?_
    refine k_lstore 15 17 C [(6, _), (4, _), (0, _), (2, _)] dL_common_15 rfl (by decide) rfl ?_
    exact loop17 _ za.natAbs zb.natAbs (by have := ha.1; have := ha.2; omega) (by have := hb.1; have := hb.2; omega) rfl rfl
  · refine k_lload_n 6 7 C dL_common_6 rfl 0 rfl ?_
    refine k_lneg 7 8 C dL_common_7 rfl  ?_
    have zl : ¬ 0 ≤ za := fun zz => h3 ((J_le (a := 0) ⟨by decide, by decide⟩ ha).mpr zz)
    refine k_rwL (y := lN za.natAbs) (by rw [J_neg, J_nn (by omega), show (-za).toNat = za.natAbs by omega]) ?_
    refine k_goto 8 12 C dL_common_8 (by decide) ?_
    refine k_lstore 12 14 C [(4, _), (0, _), (2, _)] dL_common_12 rfl (by decide) rfl ?_
    refine k_lload_n 14 15 C dL_common_14 rfl 2 rfl ?_
    refine k_rwL (y := lN zb.natAbs) (by rw [J_nn hb0, show zb.toNat = zb.natAbs by omega]) ?_
    refine k_lstore 15 17 C [(6, _), (4, _), (0, _), (2, _)] dL_common_15 rfl (by decide) rfl ?_
    exact loop17 _ za.natAbs zb.natAbs (by have := ha.1; have := ha.2; omega) (by have := hb.1; have := hb.2; omega) rfl rfl
