set_option maxHeartbeats 4000000 in
set_option maxRecDepth 100000 in
theorem law_point {E : gE} {T : gT} {V : gV} {p : Program} {l : Launch} {e : Env} {s : State} {m : MethodId} {args : Array Value} {below : List Frame} {meth : Method} {c : Code} {ret : Option FieldType} {k n : Nat} {Q : State → Prop} (C : Cx E p s m args meth c RL code 14 ret) {b zi : Nat} {a : Nat} {S : Dk} {h : Nat} {H : Nat → Dk} {r0 : Nat} {ρ : Nat → Nat} (hA : IsAll T a) (g : AVp V a S h H r0 ρ) {cs : Nat → Int32} (ht : TC V (a + 29) cs 0) {f : Nat → Int64} (zr : Rel f S) {kk : Nat} (zg : GI S kk) (zh : ∀ i, i < h → GI (H i) kk) (hk : k ≤ room_1.cells) (hn : n ≤ room_1.slots) {zd : Nat} {zy : Int32} (hzd : zd < kn S) (hcont : ∀ V2 : gV, zLS V2 a (kk + 1) → KW E T V2 p l e room_1 s m args below meth c 14 k n Q 1037 [(2, .int (nI zi)), (0, .ref b), (1, .ref a)] []) : KW E T V p l e room_1 s m args below meth c 14 k n Q 200 [(4, .int zy), (5, .int (nI (kn S))), (7, .int (nI zd)), (2, .int (nI zi)), (0, .ref b), (1, .ref a)] [] := by
  have ha := hA.a
  have zn6 := zr.n6
  have zh4 := AVp.le g
  have join308 : ∀ (zj : Int32) (zu zv : Nat), (zj = 0 ∨ zj = 1) → (zu < 1001) → (zv < 1001) → KW E T V p l e room_1 s m args below meth c 14 k n Q 308 [(10, .int (nI zu)), (11, .int (nI zv)), (9, .int (fl (zcB S zd (kn S)))), (8, .int (nI (rn (kdr S zd)))), (4, .int zy), (5, .int (nI (kn S))), (7, .int (nI zd)), (2, .int (nI zi)), (0, .ref b), (1, .ref a)] [.int zj] := by
    intro zj zu zv hzj hzu hzv
    have okx : okR (nI zu) 0 1000 := okN (lo := 0) (hi := 1000) (by omega) (by omega) (by decide)
    have oky : okR (nI zv) 0 1000 := okN (lo := 0) (hi := 1000) (by omega) (by omega) (by decide)
    have okq : okR zj 0 1 := by rcases hzj with z | z <;> rw [z] <;> decide
    have z20 := zr.n20 zd hzd
    have zpt : zcB S zd (kn S) = true ∨ (zcB S zd (kn S) = false ∧ ¬ rn (kdr S zd) < 20) ∨ (zcB S zd (kn S) = false ∧ rn (kdr S zd) < 20) := by
      by_cases z1 : zcB S zd (kn S) = true
      · exact Or.inl z1
      · by_cases z2 : rn (kdr S zd) < 20
        · exact Or.inr (Or.inr ⟨Bool.eq_false_iff.mpr z1, z2⟩)
        · exact Or.inr (Or.inl ⟨Bool.eq_false_iff.mpr z1, z2⟩)
    refine k_istore 308 310 C [(12, _), (10, _), (11, _), (9, _), (8, _), (4, _), (5, _), (7, _), (2, _), (0, _), (1, _)] dL_law_308 rfl (by decide) rfl ?_
    refine k_aload_n 310 311 C dL_law_310 rfl 10 rfl ?_
    refine k_iload 311 313 C dL_law_311 rfl 7 rfl ?_
    refine k_iload 313 315 C dL_law_313 rfl 1 rfl ?_
    refine k_iload 315 317 C dL_law_315 rfl 2 rfl ?_
    refine k_iload 317 319 C dL_law_317 rfl 0 rfl ?_
    refine k_callVI 319 322 C [_, _, _, _] [] dL_law_319 rfl (ct_X3_point hA g) mi_X3_point ml_L_63 im_X3_point se_X3_point ci_X3 (IsArm.o ‹_›) rfl rfl ⟨Nat.le_of_ble_eq_true rfl, Nat.le_of_ble_eq_true rfl⟩ (Nat.le_of_ble_eq_true rfl) hk hn (fun r319 V319 p319 => ?_)
    rcases zpt with zb | ⟨zb, zl⟩ | ⟨zb, zl⟩
    · obtain ⟨rfl, r0319, ρ319, g319, t319⟩ := sq_no ht p319 (pn_1 zr hzd okx oky okq zb)
      refine k_istore 322 324 C [(13, _), (12, _), (10, _), (11, _), (9, _), (8, _), (4, _), (5, _), (7, _), (2, _), (0, _), (1, _)] dL_law_322 rfl (by decide) rfl ?_
      refine k_iload 324 326 C dL_law_324 rfl 0 rfl ?_
      refine k_iload 326 328 C dL_law_326 rfl 4 rfl ?_
      refine k_if_eq 328 336 331 C dL_law_328 (by decide) rfl (fun h328 => ?_) (fun h328 => ?_)
      · exact absurd (h328.symm.trans (fl_t zb)) (by decide)
      · refine k_ldc 331 333 C dL_law_331 rfl kc_L_52 ?_
        refine k_goto 333 350 C dL_law_333 (by decide) ?_
        refine k_icmp_ne 350 445 353 C dL_law_350 (by decide) rfl (fun h350 => ?_) (fun h350 => ?_)
        · exact absurd rfl h350
        · refine k_iload 353 355 C dL_law_353 rfl 0 rfl ?_
          refine k_if_lt 355 447 358 C dL_law_355 (by decide) rfl (fun h355 => ?_) (fun h355 => ?_)
          · refine k_goto 447 1037 C dL_law_447 (by decide) ?_
            refine k_perm [9, 10, 11] (L' := [(2, _), (0, _), (1, _)]) rfl ?_
            exact hcont _ (zLS.of g319 t319 zg zh (by omega))
          · exact absurd (by decide) h355
    · obtain ⟨rfl, r0319, ρ319, g319, t319⟩ := sq_no ht p319 (pn_2 zr hzd okx oky okq zb zl)
      refine k_istore 322 324 C [(13, _), (12, _), (10, _), (11, _), (9, _), (8, _), (4, _), (5, _), (7, _), (2, _), (0, _), (1, _)] dL_law_322 rfl (by decide) rfl ?_
      refine k_iload 324 326 C dL_law_324 rfl 0 rfl ?_
      refine k_iload 326 328 C dL_law_326 rfl 4 rfl ?_
      refine k_if_eq 328 336 331 C dL_law_328 (by decide) rfl (fun h328 => ?_) (fun h328 => ?_)
      · refine k_iload 336 338 C dL_law_336 rfl 5 rfl ?_
        refine k_bipush 338 340 C dL_law_338 rfl (v := 20) rfl ?_
        refine k_icmp_ne 340 348 343 C dL_law_340 (by decide) rfl (fun h340 => ?_) (fun h340 => ?_)
        · exact absurd (show nI (rn (kdr S zd)) = nI 20 from congrArg nI (by omega)) h340
        · refine k_ldc 343 345 C dL_law_343 rfl kc_L_106 ?_
          refine k_goto 345 350 C dL_law_345 (by decide) ?_
          refine k_icmp_ne 350 445 353 C dL_law_350 (by decide) rfl (fun h350 => ?_) (fun h350 => ?_)
          · exact absurd rfl h350
          · refine k_iload 353 355 C dL_law_353 rfl 0 rfl ?_
            refine k_if_lt 355 447 358 C dL_law_355 (by decide) rfl (fun h355 => ?_) (fun h355 => ?_)
            · refine k_goto 447 1037 C dL_law_447 (by decide) ?_
              refine k_perm [9, 10, 11] (L' := [(2, _), (0, _), (1, _)]) rfl ?_
              exact hcont _ (zLS.of g319 t319 zg zh (by omega))
            · exact absurd (by decide) h355
      · exact absurd (fl_f zb) h328
    · obtain ⟨S1, rfl, ⟨r0319, ρ319, g319, t319⟩, zgS1, zn1, kdT⟩ := pnt_s zr ht p319 hzd zb zl okx oky okq zg
      obtain ⟨fS1, zrS1⟩ := zgS1.1
      have zhS1 := gh_step zh zg zh4
      have z4S1 := (remN_pos h).2 zh4
      have hzd1 : zd < kn S1 := by omega
      obtain ⟨w0, w2, w4, a0, a3⟩ := pt_all zr hzd (zcB_no zb).1 hzj zrS1 zgS1 hzd1 kdT
      refine k_istore 322 324 C [(13, _), (12, _), (10, _), (11, _), (9, _), (8, _), (4, _), (5, _), (7, _), (2, _), (0, _), (1, _)] dL_law_322 rfl (by decide) rfl ?_
      refine k_iload 324 326 C dL_law_324 rfl 0 rfl ?_
      refine k_iload 326 328 C dL_law_326 rfl 4 rfl ?_
      refine k_if_eq 328 336 331 C dL_law_328 (by decide) rfl (fun h328 => ?_) (fun h328 => ?_)
      · refine k_iload 336 338 C dL_law_336 rfl 5 rfl ?_
        refine k_bipush 338 340 C dL_law_338 rfl (v := 20) rfl ?_
        refine k_icmp_ne 340 348 343 C dL_law_340 (by decide) rfl (fun h340 => ?_) (fun h340 => ?_)
        · refine k_iload 348 350 C dL_law_348 rfl 5 rfl ?_
          refine k_icmp_ne 350 445 353 C dL_law_350 (by decide) rfl (fun h350 => ?_) (fun h350 => ?_)
          · exact absurd rfl h350
          · refine k_iload 353 355 C dL_law_353 rfl 0 rfl ?_
            refine k_if_lt 355 447 358 C dL_law_355 (by decide) rfl (fun h355 => ?_) (fun h355 => ?_)
            · exact absurd h355 (nI_pos (by omega))
            · refine k_aload_n 358 359 C dL_law_358 rfl 11 rfl ?_
              refine k_iload 359 361 C dL_law_359 rfl 8 rfl ?_
              refine k_iload 361 363 C dL_law_361 rfl 0 rfl ?_
              refine k_iconst 363 364 C dL_law_363 rfl (v := 0) rfl ?_
              refine k_callVL 364 367 C [_, _, _] [] dL_law_364 rfl (ct_X3_pointInfo hA g319) mi_X3_pointInfo ml_L_19 im_X3_pointInfo se_X3_pointInfo ci_X3 (IsArm.o ‹_›) rfl rfl ⟨Nat.le_of_ble_eq_true rfl, Nat.le_of_ble_eq_true rfl⟩ (Nat.le_of_ble_eq_true rfl) hk hn (fun r364 V364 p364 => ?_)
              obtain ⟨rfl, rfl⟩ := And.intro p364.1.symm p364.2
              refine k_rwL w0 ?_
              refine k_iload 367 369 C dL_law_367 rfl 2 rfl ?_
              refine k_i2l 369 370 C dL_law_369 rfl  ?_
              refine k_lcmp_ne 370 371 445 374 C dL_law_370 rfl dL_law_371 (by decide) rfl (fun h371 => ?_) (fun h371 => ?_)
              · exact absurd rfl h371
              · refine k_aload_n 374 375 C dL_law_374 rfl 11 rfl ?_
                refine k_iload 375 377 C dL_law_375 rfl 8 rfl ?_
                refine k_iload 377 379 C dL_law_377 rfl 0 rfl ?_
                refine k_iconst 379 380 C dL_law_379 rfl (v := 2) rfl ?_
                refine k_callVL 380 383 C [_, _, _] [] dL_law_380 rfl (ct_X3_pointInfo hA g319) mi_X3_pointInfo ml_L_19 im_X3_pointInfo se_X3_pointInfo ci_X3 (IsArm.o ‹_›) rfl rfl ⟨Nat.le_of_ble_eq_true rfl, Nat.le_of_ble_eq_true rfl⟩ (Nat.le_of_ble_eq_true rfl) hk hn (fun r380 V380 p380 => ?_)
                obtain ⟨rfl, rfl⟩ := And.intro p380.1.symm p380.2
                refine k_rwL w2 ?_
                refine k_iload 383 385 C dL_law_383 rfl 3 rfl ?_
                refine k_i2l 385 386 C dL_law_385 rfl  ?_
                refine k_lcmp_ne 386 387 445 390 C dL_law_386 rfl dL_law_387 (by decide) rfl (fun h387 => ?_) (fun h387 => ?_)
                · exact absurd rfl h387
                · refine k_aload_n 390 391 C dL_law_390 rfl 11 rfl ?_
                  refine k_iload 391 393 C dL_law_391 rfl 8 rfl ?_
                  refine k_iload 393 395 C dL_law_393 rfl 0 rfl ?_
                  refine k_iconst 395 396 C dL_law_395 rfl (v := 4) rfl ?_
                  refine k_callVL 396 399 C [_, _, _] [] dL_law_396 rfl (ct_X3_pointInfo hA g319) mi_X3_pointInfo ml_L_19 im_X3_pointInfo se_X3_pointInfo ci_X3 (IsArm.o ‹_›) rfl rfl ⟨Nat.le_of_ble_eq_true rfl, Nat.le_of_ble_eq_true rfl⟩ (Nat.le_of_ble_eq_true rfl) hk hn (fun r396 V396 p396 => ?_)
                  obtain ⟨rfl, rfl⟩ := And.intro p396.1.symm p396.2
                  refine k_rwL w4 ?_
                  refine k_iload 399 401 C dL_law_399 rfl 0 rfl ?_
                  refine k_if_ne 401 408 404 C dL_law_401 (by decide) rfl (fun h401 => ?_) (fun h401 => ?_)
                  · have z401 : ¬ rn (kdr S zd) = 0 := fun zz => h401 (by rw [zz]; rfl)
                    refine k_iload 408 410 C dL_law_408 rfl 1 rfl ?_
                    refine k_i2l 410 411 C dL_law_410 rfl  ?_
                    refine k_lcmp_ne 411 412 445 415 C dL_law_411 rfl dL_law_412 (by decide) rfl (fun h412 => ?_) (fun h412 => ?_)
                    · exact absurd (by first | exact if_pos z401 | exact if_neg z401) h412
                    · refine k_aload_n 415 416 C dL_law_415 rfl 11 rfl ?_
                      refine k_iload 416 418 C dL_law_416 rfl 8 rfl ?_
                      refine k_iload 418 420 C dL_law_418 rfl 0 rfl ?_
                      refine k_iconst 420 421 C dL_law_420 rfl (v := 0) rfl ?_
                      refine k_callVL 421 424 C [_, _, _] [] dL_law_421 rfl (ct_X3_atOnce hA g319) mi_X3_atOnce ml_L_72 im_X3_atOnce se_X3_atOnce ci_X3 (IsArm.o ‹_›) rfl rfl ⟨Nat.le_of_ble_eq_true rfl, Nat.le_of_ble_eq_true rfl⟩ (Nat.le_of_ble_eq_true rfl) hk hn (fun r421 V421 p421 => ?_)
                      obtain ⟨rfl, rfl⟩ := And.intro p421.1.symm p421.2
                      refine k_rwL a0 ?_
                      refine k_iload 424 426 C dL_law_424 rfl 2 rfl ?_
                      refine k_i2l 426 427 C dL_law_426 rfl  ?_
                      refine k_lcmp_ne 427 428 445 431 C dL_law_427 rfl dL_law_428 (by decide) rfl (fun h428 => ?_) (fun h428 => ?_)
                      · exact absurd rfl h428
                      · refine k_aload_n 431 432 C dL_law_431 rfl 11 rfl ?_
                        refine k_iload 432 434 C dL_law_432 rfl 8 rfl ?_
                        refine k_iload 434 436 C dL_law_434 rfl 0 rfl ?_
                        refine k_iconst 436 437 C dL_law_436 rfl (v := 3) rfl ?_
                        refine k_callVL 437 440 C [_, _, _] [] dL_law_437 rfl (ct_X3_atOnce hA g319) mi_X3_atOnce ml_L_72 im_X3_atOnce se_X3_atOnce ci_X3 (IsArm.o ‹_›) rfl rfl ⟨Nat.le_of_ble_eq_true rfl, Nat.le_of_ble_eq_true rfl⟩ (Nat.le_of_ble_eq_true rfl) hk hn (fun r437 V437 p437 => ?_)
                        obtain ⟨rfl, rfl⟩ := And.intro p437.1.symm p437.2
                        refine k_rwL a3 ?_
                        refine k_lconst 440 441 C dL_law_440 rfl (v := 1) rfl ?_
                        refine k_lcmp_eq 441 442 447 445 C dL_law_441 rfl dL_law_442 (by decide) rfl (fun h442 => ?_) (fun h442 => ?_)
                        · refine k_goto 447 1037 C dL_law_447 (by decide) ?_
                          refine k_perm [9, 10, 11] (L' := [(2, _), (0, _), (1, _)]) rfl ?_
                          exact hcont _ (zLS.of g319 t319 zgS1 zhS1 (by omega))
                        · exact absurd rfl h442
                  · have z401 : rn (kdr S zd) = 0 := (nI_eq (a := rn (kdr S zd)) (b := 0) (by omega) (by decide)).mp h401
                    refine k_lconst 404 405 C dL_law_404 rfl (v := 0) rfl ?_
                    refine k_goto 405 411 C dL_law_405 (by decide) ?_
                    refine k_lcmp_ne 411 412 445 415 C dL_law_411 rfl dL_law_412 (by decide) rfl (fun h412 => ?_) (fun h412 => ?_)
                    · exact absurd (by first | exact if_pos z401 | exact if_neg z401) h412
                    · refine k_aload_n 415 416 C dL_law_415 rfl 11 rfl ?_
                      refine k_iload 416 418 C dL_law_416 rfl 8 rfl ?_
                      refine k_iload 418 420 C dL_law_418 rfl 0 rfl ?_
                      refine k_iconst 420 421 C dL_law_420 rfl (v := 0) rfl ?_
                      refine k_callVL 421 424 C [_, _, _] [] dL_law_421 rfl (ct_X3_atOnce hA g319) mi_X3_atOnce ml_L_72 im_X3_atOnce se_X3_atOnce ci_X3 (IsArm.o ‹_›) rfl rfl ⟨Nat.le_of_ble_eq_true rfl, Nat.le_of_ble_eq_true rfl⟩ (Nat.le_of_ble_eq_true rfl) hk hn (fun r421 V421 p421 => ?_)
                      obtain ⟨rfl, rfl⟩ := And.intro p421.1.symm p421.2
                      refine k_rwL a0 ?_
                      refine k_iload 424 426 C dL_law_424 rfl 2 rfl ?_
                      refine k_i2l 426 427 C dL_law_426 rfl  ?_
                      refine k_lcmp_ne 427 428 445 431 C dL_law_427 rfl dL_law_428 (by decide) rfl (fun h428 => ?_) (fun h428 => ?_)
                      · exact absurd rfl h428
                      · refine k_aload_n 431 432 C dL_law_431 rfl 11 rfl ?_
                        refine k_iload 432 434 C dL_law_432 rfl 8 rfl ?_
                        refine k_iload 434 436 C dL_law_434 rfl 0 rfl ?_
                        refine k_iconst 436 437 C dL_law_436 rfl (v := 3) rfl ?_
                        refine k_callVL 437 440 C [_, _, _] [] dL_law_437 rfl (ct_X3_atOnce hA g319) mi_X3_atOnce ml_L_72 im_X3_atOnce se_X3_atOnce ci_X3 (IsArm.o ‹_›) rfl rfl ⟨Nat.le_of_ble_eq_true rfl, Nat.le_of_ble_eq_true rfl⟩ (Nat.le_of_ble_eq_true rfl) hk hn (fun r437 V437 p437 => ?_)
                        obtain ⟨rfl, rfl⟩ := And.intro p437.1.symm p437.2
                        refine k_rwL a3 ?_
                        refine k_lconst 440 441 C dL_law_440 rfl (v := 1) rfl ?_
                        refine k_lcmp_eq 441 442 447 445 C dL_law_441 rfl dL_law_442 (by decide) rfl (fun h442 => ?_) (fun h442 => ?_)
                        · refine k_goto 447 1037 C dL_law_447 (by decide) ?_
                          refine k_perm [9, 10, 11] (L' := [(2, _), (0, _), (1, _)]) rfl ?_
                          exact hcont _ (zLS.of g319 t319 zgS1 zhS1 (by omega))
                        · exact absurd rfl h442
        · exact absurd ((nI_eq (a := rn (kdr S zd)) (b := 20) (by omega) (by decide)).mp h340) (by omega)
      · exact absurd (fl_f zb) h328
  have loop231 : ∀ (f231 : Nat) (ze : Nat), kn S - ze = f231 → (ze ≤ kn S) → KW E T V p l e room_1 s m args below meth c 14 k n Q 231 [(10, .int (nI ze)), (9, .int (fl (zcB S zd (ze)))), (8, .int (nI (rn (kdr S zd)))), (4, .int zy), (5, .int (nI (kn S))), (7, .int (nI zd)), (2, .int (nI zi)), (0, .ref b), (1, .ref a)] [] := by
    intro f231
    induction f231 using Nat.strongRecOn with
    | _ f231 ih231 =>
    intro ze hf231 hel
    refine k_iload 231 233 C dL_law_231 rfl 0 rfl ?_
    refine k_iload 233 235 C dL_law_233 rfl 4 rfl ?_
    refine k_icmp_ge 235 268 238 C dL_law_235 (by decide) rfl (fun h235 => ?_) (fun h235 => ?_)
    · obtain rfl : ze = kn S := by have z := (nI_leI (a := kn S) (b := ze) (by omega) (by omega)).mp h235; omega
      refine k_iload 268 270 C dL_law_268 rfl 3 rfl ?_
      refine k_sipush 270 273 C dL_law_270 rfl (v := 1001) rfl ?_
      refine k_callSI 273 276 C [_, _] [] dL_law_273 rfl (ct_L_low (zm := 1001) (by omega) (by omega)) mi_L_low ml_L_100 st_L_low rfl rfl ⟨Nat.le_of_ble_eq_true rfl, Nat.le_of_ble_eq_true rfl⟩ (Nat.le_of_ble_eq_true rfl) hk hn (fun r273 V273 p273 => ?_)
      obtain ⟨rfl, rfl⟩ := And.intro p273.1.symm p273.2
      refine k_istore 276 278 C [(10, _), (9, _), (8, _), (4, _), (5, _), (7, _), (2, _), (0, _), (1, _)] dL_law_276 rfl (by decide) rfl ?_
      refine k_iload 278 280 C dL_law_278 rfl 3 rfl ?_
      refine k_bipush 280 282 C dL_law_280 rfl (v := 9) rfl ?_
      refine k_ishr 282 283 C dL_law_282 rfl  ?_
      refine k_sipush 283 286 C dL_law_283 rfl (v := 1001) rfl ?_
      refine k_callSI 286 289 C [_, _] [] dL_law_286 rfl (ct_L_low (zm := 1001) (by omega) (by omega)) mi_L_low ml_L_100 st_L_low rfl rfl ⟨Nat.le_of_ble_eq_true rfl, Nat.le_of_ble_eq_true rfl⟩ (Nat.le_of_ble_eq_true rfl) hk hn (fun r286 V286 p286 => ?_)
      obtain ⟨rfl, rfl⟩ := And.intro p286.1.symm p286.2
      refine k_istore 289 291 C [(11, _), (10, _), (9, _), (8, _), (4, _), (5, _), (7, _), (2, _), (0, _), (1, _)] dL_law_289 rfl (by decide) rfl ?_
      refine k_iload 291 293 C dL_law_291 rfl 4 rfl ?_
      refine k_bipush 293 295 C dL_law_293 rfl (v := 20) rfl ?_
      refine k_ishr 295 296 C dL_law_295 rfl  ?_
      refine k_iconst 296 297 C dL_law_296 rfl (v := 4) rfl ?_
      refine k_callSI 297 300 C [_, _] [] dL_law_297 rfl (ct_L_low (zm := 4) (by omega) (by omega)) mi_L_low ml_L_100 st_L_low rfl rfl ⟨Nat.le_of_ble_eq_true rfl, Nat.le_of_ble_eq_true rfl⟩ (Nat.le_of_ble_eq_true rfl) hk hn (fun r297 V297 p297 => ?_)
      obtain ⟨rfl, rfl⟩ := And.intro p297.1.symm p297.2
      refine k_if_ne 300 307 303 C dL_law_300 (by decide) rfl (fun h300 => ?_) (fun h300 => ?_)
      · refine k_iconst 307 308 C dL_law_307 rfl (v := 1) rfl ?_
        refine k_perm [1, 0, 2, 3, 4, 5, 6, 7, 8, 9] (L' := [(10, _), (11, _), (9, _), (8, _), (4, _), (5, _), (7, _), (2, _), (0, _), (1, _)]) rfl ?_
        exact join308 _ _ _ (by first | exact Or.inl rfl | exact Or.inr rfl) (lw_lt (by decide)) (lw_lt (by decide))
      · refine k_iconst 303 304 C dL_law_303 rfl (v := 0) rfl ?_
        refine k_goto 304 308 C dL_law_304 (by decide) ?_
        refine k_perm [1, 0, 2, 3, 4, 5, 6, 7, 8, 9] (L' := [(10, _), (11, _), (9, _), (8, _), (4, _), (5, _), (7, _), (2, _), (0, _), (1, _)]) rfl ?_
        exact join308 _ _ _ (by first | exact Or.inl rfl | exact Or.inr rfl) (lw_lt (by decide)) (lw_lt (by decide))
    · have hze : ze < kn S := Nat.lt_of_not_le (fun zz => h235 ((nI_leI (a := kn S) (b := ze) (by omega) (by omega)).mpr zz))
      refine k_iload 238 240 C dL_law_238 rfl 1 rfl ?_
      refine k_if_ne 240 255 243 C dL_law_240 (by decide) rfl (fun h240 => ?_) (fun h240 => ?_)
      · refine k_iconst 255 256 C dL_law_255 rfl (v := 1) rfl ?_
        refine k_rwI (y := fl (zcB S zd (ze + 1))) (by first | exact (cs_1 h240).symm | exact (cs_2 zr hzd hze h252).symm) ?_
        refine k_goto 256 260 C dL_law_256 (by decide) ?_
        refine k_istore 260 262 C [(9, _), (10, _), (8, _), (4, _), (5, _), (7, _), (2, _), (0, _), (1, _)] dL_law_260 rfl (by decide) rfl ?_
        refine k_iinc 262 265 C [(10, _), (9, _), (8, _), (4, _), (5, _), (7, _), (2, _), (0, _), (1, _)] (nI (ze + 1)) dL_law_262 rfl 1 rfl (nI_1 (ze)) (by decide) rfl ?_
        refine k_goto 265 231 C dL_law_265 (by decide) ?_
        exact ih231 (kn S - (ze + 1)) (by omega) (ze + 1) rfl (by omega)
      · refine k_aload_n 243 244 C dL_law_243 rfl 8 rfl ?_
        refine k_iload 244 246 C dL_law_244 rfl 0 rfl ?_
        refine k_iconst 246 247 C dL_law_246 rfl (v := 1) rfl ?_
        refine k_callVI 247 250 C [_, _] [] dL_law_247 rfl (ct_X3_drawing hA g (dr_nice zr)) mi_X3_drawing ml_L_15 im_X3_drawing se_X3_drawing ci_X3 (IsArm.o ‹_›) rfl rfl ⟨Nat.le_of_ble_eq_true rfl, Nat.le_of_ble_eq_true rfl⟩ (Nat.le_of_ble_eq_true rfl) hk hn (fun r247 V247 p247 => ?_)
        obtain ⟨rfl, rfl⟩ := And.intro p247.1.symm p247.2
        refine k_rwI (dg_1 zr hze) ?_
        refine k_iload 250 252 C dL_law_250 rfl 5 rfl ?_
        refine k_icmp_ne 252 259 255 C dL_law_252 (by decide) rfl (fun h252 => ?_) (fun h252 => ?_)
        · refine k_iconst 259 260 C dL_law_259 rfl (v := 0) rfl ?_
          refine k_rwI (y := fl (zcB S zd (ze + 1))) (cs_3 zr hzd hze h240 h252).symm ?_
          refine k_istore 260 262 C [(9, _), (10, _), (8, _), (4, _), (5, _), (7, _), (2, _), (0, _), (1, _)] dL_law_260 rfl (by decide) rfl ?_
          refine k_iinc 262 265 C [(10, _), (9, _), (8, _), (4, _), (5, _), (7, _), (2, _), (0, _), (1, _)] (nI (ze + 1)) dL_law_262 rfl 1 rfl (nI_1 (ze)) (by decide) rfl ?_
          refine k_goto 265 231 C dL_law_265 (by decide) ?_
          exact ih231 (kn S - (ze + 1)) (by omega) (ze + 1) rfl (by omega)
        · refine k_iconst 255 256 C dL_law_255 rfl (v := 1) rfl ?_
          refine k_rwI (y := fl (zcB S zd (ze + 1))) (by first | exact (cs_1 h240).symm | exact (cs_2 zr hzd hze h252).symm) ?_
          refine k_goto 256 260 C dL_law_256 (by decide) ?_
          refine k_istore 260 262 C [(9, _), (10, _), (8, _), (4, _), (5, _), (7, _), (2, _), (0, _), (1, _)] dL_law_260 rfl (by decide) rfl ?_
          refine k_iinc 262 265 C [(10, _), (9, _), (8, _), (4, _), (5, _), (7, _), (2, _), (0, _), (1, _)] (nI (ze + 1)) dL_law_262 rfl 1 rfl (nI_1 (ze)) (by decide) rfl ?_
          refine k_goto 265 231 C dL_law_265 (by decide) ?_
          exact ih231 (kn S - (ze + 1)) (by omega) (ze + 1) rfl (by omega)
  refine k_aload_n 200 201 C dL_law_200 rfl 5 rfl ?_
  refine k_iload 201 203 C dL_law_201 rfl 2 rfl ?_
  refine k_iconst 203 204 C dL_law_203 rfl (v := 0) rfl ?_
  refine k_callVI 204 207 C [_, _] [] dL_law_204 rfl (ct_X3_drawing hA g (dr_nice zr)) mi_X3_drawing ml_L_15 im_X3_drawing se_X3_drawing ci_X3 (IsArm.o ‹_›) rfl rfl ⟨Nat.le_of_ble_eq_true rfl, Nat.le_of_ble_eq_true rfl⟩ (Nat.le_of_ble_eq_true rfl) hk hn (fun r204 V204 p204 => ?_)
  obtain ⟨rfl, rfl⟩ := And.intro p204.1.symm p204.2
  refine k_rwI (dg_0 zr hzd) ?_
  refine k_istore 207 209 C [(8, _), (4, _), (5, _), (7, _), (2, _), (0, _), (1, _)] dL_law_207 rfl (by decide) rfl ?_
  refine k_aload_n 209 210 C dL_law_209 rfl 6 rfl ?_
  refine k_iload 210 212 C dL_law_210 rfl 3 rfl ?_
  refine k_iconst 212 213 C dL_law_212 rfl (v := 1) rfl ?_
  refine k_callVI 213 216 C [_, _] [] dL_law_213 rfl (ct_X3_drawing hA g (dr_nice zr)) mi_X3_drawing ml_L_15 im_X3_drawing se_X3_drawing ci_X3 (IsArm.o ‹_›) rfl rfl ⟨Nat.le_of_ble_eq_true rfl, Nat.le_of_ble_eq_true rfl⟩ (Nat.le_of_ble_eq_true rfl) hk hn (fun r213 V213 p213 => ?_)
  obtain ⟨rfl, rfl⟩ := And.intro p213.1.symm p213.2
  refine k_rwI (dg_1 zr hzd) ?_
  refine k_ldc 216 218 C dL_law_216 rfl kc_L_31 ?_
  refine k_icmp_eq 218 225 221 C dL_law_218 (by decide) rfl (fun h218 => ?_) (fun h218 => ?_)
  · refine k_iconst 225 226 C dL_law_225 rfl (v := 0) rfl ?_
    refine k_rwI (y := fl (zcB S zd 0)) ((cs_0 zr hzd).1 h218).symm ?_
    refine k_istore 226 228 C [(9, _), (8, _), (4, _), (5, _), (7, _), (2, _), (0, _), (1, _)] dL_law_226 rfl (by decide) rfl ?_
    refine k_iconst 228 229 C dL_law_228 rfl (v := 0) rfl ?_
    refine k_istore 229 231 C [(10, _), (9, _), (8, _), (4, _), (5, _), (7, _), (2, _), (0, _), (1, _)] dL_law_229 rfl (by decide) rfl ?_
    exact loop231 _ 0 rfl (Nat.zero_le _)
  · refine k_iconst 221 222 C dL_law_221 rfl (v := 1) rfl ?_
    refine k_rwI (y := fl (zcB S zd 0)) ((cs_0 zr hzd).2 h218).symm ?_
    refine k_goto 222 226 C dL_law_222 (by decide) ?_
    refine k_istore 226 228 C [(9, _), (8, _), (4, _), (5, _), (7, _), (2, _), (0, _), (1, _)] dL_law_226 rfl (by decide) rfl ?_
    refine k_iconst 228 229 C dL_law_228 rfl (v := 0) rfl ?_
    refine k_istore 229 231 C [(10, _), (9, _), (8, _), (4, _), (5, _), (7, _), (2, _), (0, _), (1, _)] dL_law_229 rfl (by decide) rfl ?_
    exact loop231 _ 0 rfl (Nat.zero_le _)
