theorem lt5 {L0 i : Nat} (hL : L0 ≤ 2560) (hi : i ≤ 2560) (h : ¬ Int32.ofNat L0 - 5 < nI i) : i + 5 ≤ L0 := by
  by_cases g : 5 ≤ L0
  · have e1 : Int32.ofNat L0 - 5 = nI (L0 - 5) := pk_sub (a := L0) (b := 5) g
    rw [e1] at h
    have z : nI i ≤ nI (L0 - 5) := i32_not_lt.mp h
    have := (nI_leI (by omega) (by omega)).mp z
    omega
  · exfalso
    apply h
    rw [Int32.lt_iff_toInt_lt, nI_toInt (by omega)]
    have z : L0 = 0 ∨ L0 = 1 ∨ L0 = 2 ∨ L0 = 3 ∨ L0 = 4 := by omega
    have y : (Int32.ofNat L0 - 5).toInt < 0 := by rcases z with rfl | rfl | rfl | rfl | rfl <;> decide
    omega
set_option maxHeartbeats 2000000 in
theorem law_loop {E : gE} {T : gT} {p : Program} {l : Launch} {e : Env} {s : State} {m : MethodId} {args : Array Value} {below : List Frame} {meth : Method} {c : Code} {ret : Option FieldType} {k n : Nat} {Q : State → Prop} (C : Cx E p s m args meth c RL code 4 ret) {b L0 a : Nat} {xs : Nat → Int32} (hX : va_X b L0 xs s s.heap) (hb : b < gB E) (hL : L0 ≤ 2560) (hA : IsAll T a) (hM : IsMdl T (a + 142)) (hk : k ≤ room_1.cells) (hn : n ≤ room_1.slots) (kk : ∀ (V2 : gV) (i : Nat), KW E T V2 p l e room_1 s m args below meth c 4 k n Q 713 (LL b a i) []) : ∀ (w i : Nat) (V : gV), L0 < i + 5 * w → i ≤ 2560 → GS V a → KW E T V p l e room_1 s m args below meth c 4 k n Q 18 (LL b a i) []
  | w, i, V, hw, hi, g => by
    refine k_iload_n 18 19 C dL_law_18 rfl 0 rfl ?_
    refine k_aload_n 19 20 C dL_law_19 rfl 3 rfl ?_
    refine k_slX 20 21 C hX hb dL_law_20 rfl ?_
    refine k_iconst 21 22 C dL_law_21 rfl (v := 5) rfl ?_
    refine k_isub 22 23 C dL_law_22 rfl ?_
    refine k_icmp_gt 23 713 26 C dL_law_23 (by decide) rfl (fun _ => kk V i) (fun h => ?_)
    have h5 : i + 5 ≤ L0 := lt5 hL hi h
    cases w with
    | zero => exact absurd hw (by omega)
    | succ w =>
    have k7 : ∀ V2 : gV, GS V2 a → KW E T V2 p l e room_1 s m args below meth c 4 k n Q 707 (LL b a i) [] := fun V2 g2 => by
      refine k_iinc 707 710 C (LL b a (i + 5)) (nI (i + 5)) dL_law_707 rfl 0 rfl (nI_add i 5) (by decide) rfl ?_
      refine k_goto 710 18 C dL_law_710 (by decide) ?_
      exact law_loop C hX hb hL hA hM hk hn kk w (i + 5) V2 (by omega) (by omega) g2
    refine k_aload_n 26 27 C dL_law_26 rfl 3 rfl ?_
    refine k_iload_n 27 28 C dL_law_27 rfl 0 rfl ?_
    refine k_sdX 28 29 C hX hb (show i < L0 by omega) hL dL_law_28 rfl ?_
    refine k_bipush 29 31 C dL_law_29 rfl (v := 31) rfl ?_
    refine k_iand 31 32 C dL_law_31 rfl ?_
    refine k_switch21 32 C (fun hs => ?_) (fun hs => ?_) (fun hs => ?_) (fun hs => ?_) (fun hs => ?_) (fun hs => ?_) (fun hs => ?_) (fun hs => ?_) (fun hs => ?_) (fun hs => ?_) (fun hs => ?_) (fun hs => ?_) (fun hs => ?_) (fun hs => ?_) (fun hs => ?_) (fun hs => ?_) (fun hs => ?_) (fun hs => ?_) (fun hs => ?_) (fun hs => ?_) (fun hs => ?_) (fun hs => ?_)
    · exact k_tabOut 32 707 C dL_law_32 hs (by decide) (k7 V g)
    · exact k_tabAt 32 132 C dL_law_32 (z := 0) hs rfl rfl rfl (by decide) (law_arm C hX hb hL h5 hA hM hk hn g k7)
    · exact k_tabAt 32 165 C dL_law_32 (z := 1) hs rfl rfl rfl (by decide) (law_pivot C hX hb hL h5 hA hM hk hn g k7)
    · exact k_tabAt 32 198 C dL_law_32 (z := 2) hs rfl rfl rfl (by decide) (law_set C hX hb hL h5 hA hM hk hn g k7)
    · exact k_tabAt 32 231 C dL_law_32 (z := 3) hs rfl rfl rfl (by decide) (law_count C hX hb hL h5 hA hM hk hn g k7)
    · exact k_tabAt 32 254 C dL_law_32 (z := 4) hs rfl rfl rfl (by decide) (law_sharpen C hX hb hL h5 hA hM hk hn g k7)
    · exact k_tabAt 32 267 C dL_law_32 (z := 5) hs rfl rfl rfl (by decide) (law_draw C hX hb hL h5 hA hM hk hn g k7)
    · exact k_tabAt 32 280 C dL_law_32 (z := 6) hs rfl rfl rfl (by decide) (law_point C hX hb hL h5 hA hM hk hn g k7)
    · exact k_tabAt 32 333 C dL_law_32 (z := 7) hs rfl rfl rfl (by decide) (law_remove C hX hb hL h5 hA hM hk hn g k7)
    · exact k_tabAt 32 356 C dL_law_32 (z := 8) hs rfl rfl rfl (by decide) (law_copy C hX hb hL h5 hA hM hk hn g k7)
    · exact k_tabAt 32 379 C dL_law_32 (z := 9) hs rfl rfl rfl (by decide) (law_why C hX hb hL h5 hA hM hk hn g k7)
    · exact k_tabAt 32 402 C dL_law_32 (z := 10) hs rfl rfl rfl (by decide) (law_drawing C hX hb hL h5 hA hM hk hn g k7)
    · exact k_tabAt 32 435 C dL_law_32 (z := 11) hs rfl rfl rfl (by decide) (law_ratio C hX hb hL h5 hA hM hk hn g k7)
    · exact k_tabAt 32 468 C dL_law_32 (z := 12) hs rfl rfl rfl (by decide) (law_pointInfo C hX hb hL h5 hA hM hk hn g k7)
    · exact k_tabAt 32 512 C dL_law_32 (z := 13) hs rfl rfl rfl (by decide) (law_atOnce C hX hb hL h5 hA hM hk hn g k7)
    · exact k_tabAt 32 556 C dL_law_32 (z := 14) hs rfl rfl rfl (by decide) (law_alike C hX hb hL h5 hA hM hk hn g k7)
    · exact k_tabAt 32 589 C dL_law_32 (z := 15) hs rfl rfl rfl (by decide) (law_armFor C hX hb hL h5 hA hM hk hn g k7)
    · exact k_tabAt 32 622 C dL_law_32 (z := 16) hs rfl rfl rfl (by decide) (law_undo C hX hb hL h5 hA hM hk hn g k7)
    · exact k_tabAt 32 635 C dL_law_32 (z := 17) hs rfl rfl rfl (by decide) (law_type C hX hb hL h5 hA hM hk hn g k7)
    · exact k_tabAt 32 658 C dL_law_32 (z := 18) hs rfl rfl rfl (by decide) (law_clearText C hX hb hL h5 hA hM hk hn g k7)
    · exact k_tabAt 32 671 C dL_law_32 (z := 19) hs rfl rfl rfl (by decide) (law_fault C hX hb hL h5 hA hM hk hn g k7)
    · exact k_tabAt 32 694 C dL_law_32 (z := 20) hs rfl rfl rfl (by decide) (law_read C hX hb hL h5 hA hM hk hn g k7)
/-! what the launch gives -/
theorem arr_p {s : State} {args : Array Value} {ty : FieldType} (hp : ∀ C, ty ≠ .object C) (h : (Cond.arrayClass ty).before args s = true) : ∃ cA : ClassId, ArrOfT s cA ty ∧ va_RA s cA ty := by
  obtain ⟨c, k, comp, h1, h2, h3⟩ := Cond.arrayClass_spec h
  refine ⟨c, fun n z => ⟨fun k h => (by cases h), k, h2, comp, h3⟩, ?_⟩
  cases ty <;> first | exact h1 | exact absurd rfl (hp _)
theorem arr_o {s : State} {C : String} (h : va_AO C s) : ∃ cA : ClassId, ArrOfT s cA (.object C) ∧ va_RA s cA (.object C) := by
  obtain ⟨comp, c, k, h1, -, h2, h3, h4⟩ := Cond.arrayOver_spec h
  exact ⟨c, fun n z => ⟨fun k h => (by cases h), k, h2, comp, h3⟩, k, comp, h2, h3, h1, h4⟩
theorem u_stat {args : Array Value} {s : State} {tm : Term} {f : Nat → Int32} (harr : (Cond.arrayOf tm .int).before args s = true) (hlen : (Cond.eq (.length tm) (.int 5)).before args s = true) (hel : ∀ j, j < 5 → (Cond.eq (.elem tm (.int (Int32.ofNat j))) (.int (f j))).before args s = true) : ∃ t : Nat, tm.eval args s none [] s = some (.ref t) ∧ va_X t 5 f s s.heap ∧ t < s.heap.size := by
  have hv := va_eqt hlen
  obtain ⟨t0, cell0, ht0, hat, -⟩ := Term.length_spec hv
  have hsz : cell0.slots.size < 2 ^ 31 := by
    have hv2 := hv
    simp only [Term.eval, ht0, hat, Option.bind_eq_bind, Option.bind_some] at hv2
    by_cases hlt : cell0.slots.size < 2147483648
    · exact hlt
    · simp [hlt] at hv2
  obtain ⟨t, ht, cell, h1, h2, h3, h4, h5, h6, -⟩ := va_Tof (N := 5) (f := fun j => .int (f j)) (A := fun _ => False) (by decide) harr hv (fun j hj => va_eqt (hel j hj)) (fun _ _ h => h)
  cases ht0.symm.trans ht
  cases (State.arrayAt?_spec hat).1.symm.trans h1
  have hs5 : cell0.slots.size = 5 := (nI_eq hsz (by decide)).mp (show nI cell0.slots.size = nI 5 from h5)
  exact ⟨t0, ht, ⟨cell0, h1, h2, h3, hs5, h6⟩, (Array.getElem?_eq_some_iff.mp h1).1⟩
theorem tb1 {w : Cond} {i : Nat} (h0 : tables_1_1[i]? = some w) : w ∈ lw_tbl := List.mem_append_right _ (have h := List.mem_of_getElem? h0; List.mem_append_left _ h)
theorem tb2 {w : Cond} {i : Nat} (h0 : tables_1_2[i]? = some w) : w ∈ lw_tbl := List.mem_append_right _ (have h := List.mem_of_getElem? h0; List.mem_append_right _ (List.mem_append_left _ h))
set_option maxHeartbeats 2000000 in
theorem entry_E {s : State} {b : Nat} (hts : ∀ w ∈ lw_tbl, w.before #[Value.ref b] s = true) (hgv : (Jvm.Cond.and given_1 narrow_1).before #[Value.ref b] s = true) : ∃ E : gE, gB E = s.heap.size ∧ va_K E.1 classes (tyl E) s ∧ Stc E s s.heap := by
  have tsG : ∀ w ∈ GW, w.before #[Value.ref b] s = true := fun w h => hts w (gw_tbl w h)
  have hs := flat_of_before _ hgv
  obtain ⟨c0, i0, k0⟩ := u_known (C := RX0) (T := TX0) (N := 12) (n := 12) tsG inGX0 (tsG _ ins_X0)
  obtain ⟨c1, i1, k1⟩ := u_known (C := RX1) (T := TX1) (N := 11) (n := 11) tsG inGX1 (tsG _ ins_X1)
  obtain ⟨c2, i2, k2⟩ := u_known (C := RX2) (T := TX2) (N := 9) (n := 9) tsG inGX2 (tsG _ ins_X2)
  obtain ⟨c3, i3, k3⟩ := u_known (C := RX3) (T := TX3) (N := 4) (n := 4) tsG inGX3 (tsG _ ins_X3)
  obtain ⟨c4, i4, k4⟩ := u_known (C := RX4) (T := TX4) (N := 12) (n := 12) tsG inGX4 (tsG _ ins_X4)
  obtain ⟨a0, A0⟩ := arr_p (fun _ z => by cases z) (tsG _ ac__int)
  obtain ⟨a1, A1⟩ := arr_p (fun _ z => by cases z) (tsG _ ac__long)
  obtain ⟨a2, A2⟩ := arr_o (C := RX1) (va_AO.of (hts _ (tb1 (i := 25) rfl)))
  obtain ⟨a3, A3⟩ := arr_o (C := RX0) (va_AO.of (hts _ (tb1 (i := 128) rfl)))
  obtain ⟨a4, A4⟩ := arr_p (fun _ z => by cases z) (tsG _ ac__char)
  obtain ⟨a5, A5⟩ := arr_p (fun _ z => by cases z) (tsG _ ac__boolean)
  obtain ⟨t0, x0, y0, z0⟩ := u_stat (args := #[.ref b]) (s := s) (tm := .static "PantographArm" "LEAST_SETTING" "[I") (f := leastv) (hs _ (by decide +kernel)) (hs _ (by decide +kernel)) (fun j hj => by
    have q : j = 0 ∨ j = 1 ∨ j = 2 ∨ j = 3 ∨ j = 4 := by omega
    rcases q with rfl | rfl | rfl | rfl | rfl <;> exact hs _ (by decide +kernel))
  obtain ⟨t1, x1, y1, z1⟩ := u_stat (args := #[.ref b]) (s := s) (tm := .static "PantographArm" "MOST_SETTING" "[I") (f := mostv) (hs _ (by decide +kernel)) (hs _ (by decide +kernel)) (fun j hj => by
    have q : j = 0 ∨ j = 1 ∨ j = 2 ∨ j = 3 ∨ j = 4 := by omega
    rcases q with rfl | rfl | rfl | rfl | rfl <;> exact hs _ (by decide +kernel))
  obtain ⟨t2, x2, y2, z2⟩ := u_stat (args := #[.ref b]) (s := s) (tm := .static "PantographArm" "FIRST_SETTING" "[I") (f := firstv) (hs _ (by decide +kernel)) (hs _ (by decide +kernel)) (fun j hj => by
    have q : j = 0 ∨ j = 1 ∨ j = 2 ∨ j = 3 ∨ j = 4 := by omega
    rcases q with rfl | rfl | rfl | rfl | rfl <;> exact hs _ (by decide +kernel))
  have hA : ∀ q : Nat, q < s.heap.size → ¬ s.heap.size ≤ q := fun q h => Nat.not_le.mpr h
  refine ⟨((fun k => match k with | 0 => c0 | 1 => c1 | 2 => c2 | 3 => c3 | _ => c4, fun k => match k with | 0 => i0 | 1 => i1 | 2 => i2 | 3 => i3 | _ => i4), (fun t => match t with | 0 => a0 | 1 => a1 | 2 => a2 | 3 => a3 | 4 => a4 | _ => a5, (s.heap.size, fun t => match t with | 0 => t0 | 1 => t1 | _ => t2))), rfl, ⟨fun k q hq => ?_, fun k q hq => ?_⟩, ⟨?_, y0, z0⟩, ⟨?_, y1, z1⟩, ?_, y2, z2⟩
  · match k, hq with
    | 0, hq => cases hq; exact k0
    | 1, hq => cases hq; exact k1
    | 2, hq => cases hq; exact k2
    | 3, hq => cases hq; exact k3
    | 4, hq => cases hq; exact k4
    | k + 5, hq => simp [classes] at hq
  · match k, hq with
    | 0, hq => cases hq; exact A0
    | 1, hq => cases hq; exact A1
    | 2, hq => cases hq; exact A2
    | 3, hq => cases hq; exact A3
    | 4, hq => cases hq; exact A4
    | 5, hq => cases hq; exact A5
    | k + 6, hq => simp [tyl] at hq
  · exact va_Zof (hts _ (tb2 (i := 6) rfl)) (tsG _ ini_X3) x0 hA
  · exact va_Zof (hts _ (tb2 (i := 8) rfl)) (tsG _ ini_X3) x1 hA
  · exact va_Zof (hts _ (tb1 (i := 23) rfl)) (tsG _ ini_X3) x2 hA
