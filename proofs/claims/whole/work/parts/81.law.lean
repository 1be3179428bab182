theorem k_slX {E : gE} {T : gT} {V : gV} {p : Program} {l : Launch} {e : Env} {R : Room} {s : State} {m : MethodId} {args : Array Value} {below : List Frame} {meth : Method} {c : Code} {own : String} {cc : ByteArray} {nL : Nat} {ret : Option FieldType} {k n : Nat} {Q : State → Prop} {L : List (Nat × Value)} {st : List Value} (pc q : Nat) (C : Cx E p s m args meth c own cc nL ret) {b L0 : Nat} {xs : Nat → Int32} (hX : va_X b L0 xs s s.heap) (hb : b < gB E) (hd : decode cc pc = .ok (.arraylength, 1)) (hq : pc + 1 = q) (K : KW E T V p l e R s m args below meth c nL k n Q q L (.int (Int32.ofNat L0) :: st)) : KW E T V p l e R s m args below meth c nL k n Q pc L (.ref b :: st) := by
  subst hq
  intro H ls locs hR hS hl
  exact va_slen C.x C.b hX (Nat.lt_of_lt_of_le hb C.bs) (Nat.not_le.mpr hb) hS hd (K H ls locs hR hS hl)
theorem k_sdX {E : gE} {T : gT} {V : gV} {p : Program} {l : Launch} {e : Env} {R : Room} {s : State} {m : MethodId} {args : Array Value} {below : List Frame} {meth : Method} {c : Code} {own : String} {cc : ByteArray} {nL : Nat} {ret : Option FieldType} {k n : Nat} {Q : State → Prop} {L : List (Nat × Value)} {st : List Value} (pc q : Nat) (C : Cx E p s m args meth c own cc nL ret) {b L0 : Nat} {xs : Nat → Int32} {j : Nat} (hX : va_X b L0 xs s s.heap) (hb : b < gB E) (hj : j < L0) (hL : L0 ≤ 2560) (hd : decode cc pc = .ok (.iaload, 1)) (hq : pc + 1 = q) (K : KW E T V p l e R s m args below meth c nL k n Q q L (.int (xs j) :: st)) : KW E T V p l e R s m args below meth c nL k n Q pc L (.int (nI j) :: .ref b :: st) := by
  subst hq
  intro H ls locs hR hS hl
  have hz : (nI j).toNatClampNeg = j := nI_clamp (by omega)
  refine va_sld C.x C.b hX (Nat.lt_of_lt_of_le hb C.bs) (Nat.not_le.mpr hb) hS (vp_in_nI hj (by omega)) hd ?_
  rw [hz]
  exact K H ls locs hR hS hl
abbrev LL (b a i : Nat) : List (Nat × Value) := [(3, .int (nI i)), (2, .ref (a + 142)), (1, .ref a), (0, .ref b)]
set_option maxHeartbeats 2000000 in
theorem law_arm {E : gE} {T : gT} {V : gV} {p : Program} {l : Launch} {e : Env} {s : State} {m : MethodId} {args : Array Value} {below : List Frame} {meth : Method} {c : Code} {ret : Option FieldType} {k n : Nat} {Q : State → Prop} (C : Cx E p s m args meth c RL code 4 ret) {b L0 a i : Nat} {xs : Nat → Int32} (hX : va_X b L0 xs s s.heap) (hb : b < gB E) (hL : L0 ≤ 2560) (hi : i + 5 ≤ L0) (hA : IsAll T a) (hM : IsMdl T (a + 142)) (hk : k ≤ room_1.cells) (hn : n ≤ room_1.slots) (g : GS V a) (kk : ∀ V2 : gV, GS V2 a → KW E T V2 p l e room_1 s m args below meth c 4 k n Q 707 (LL b a i) []) : KW E T V p l e room_1 s m args below meth c 4 k n Q 132 (LL b a i) [] := by
  obtain ⟨S, h, H, f, F, cs, zn, g⟩ := g
  obtain ⟨g1, g2, g3, g4, g5, g6, g7⟩ := id g
  obtain ⟨r0, ρ, gp⟩ := g1
  refine k_aload_n 132 133 C dL_law_132 rfl 2 rfl ?_
  refine k_aload_n 133 134 C dL_law_133 rfl 3 rfl ?_
  refine k_iload_n 134 135 C dL_law_134 rfl 0 rfl ?_
  refine k_iconst 135 136 C dL_law_135 rfl (v := nI 1) rfl ?_
  refine k_iadd 136 137 C dL_law_136 rfl ?_
  refine k_rwI (y := nI (i + 1)) (nI_add i 1) ?_
  refine k_sdX 137 138 C hX hb (show i + 1 < L0 by omega) hL dL_law_137 rfl ?_
  refine k_aload_n 138 139 C dL_law_138 rfl 3 rfl ?_
  refine k_iload_n 139 140 C dL_law_139 rfl 0 rfl ?_
  refine k_iconst 140 141 C dL_law_140 rfl (v := nI 2) rfl ?_
  refine k_iadd 141 142 C dL_law_141 rfl ?_
  refine k_rwI (y := nI (i + 2)) (nI_add i 2) ?_
  refine k_sdX 142 143 C hX hb (show i + 2 < L0 by omega) hL dL_law_142 rfl ?_
  refine k_callVI 143 146 C [_, _] [] dL_law_143 rfl (ct_X3_arm hA gp) mi_X3_arm ml_L_13 im_X3_arm se_X3_arm ci_X3 (hA.a.o) rfl rfl ⟨Nat.le_of_ble_eq_true rfl, Nat.le_of_ble_eq_true rfl⟩ (Nat.le_of_ble_eq_true rfl) hk hn (fun r1 V1 p1 => ?_)
  have o1 := p1.2.2.2
  refine k_aload_n 146 147 C dL_law_146 rfl 1 rfl ?_
  refine k_aload_n 147 148 C dL_law_147 rfl 3 rfl ?_
  refine k_iload_n 148 149 C dL_law_148 rfl 0 rfl ?_
  refine k_iconst 149 150 C dL_law_149 rfl (v := nI 1) rfl ?_
  refine k_iadd 150 151 C dL_law_150 rfl ?_
  refine k_rwI (y := nI (i + 1)) (nI_add i 1) ?_
  refine k_sdX 151 152 C hX hb (show i + 1 < L0 by omega) hL dL_law_151 rfl ?_
  refine k_aload_n 152 153 C dL_law_152 rfl 3 rfl ?_
  refine k_iload_n 153 154 C dL_law_153 rfl 0 rfl ?_
  refine k_iconst 154 155 C dL_law_154 rfl (v := nI 2) rfl ?_
  refine k_iadd 155 156 C dL_law_155 rfl ?_
  refine k_rwI (y := nI (i + 2)) (nI_add i 2) ?_
  refine k_sdX 156 157 C hX hb (show i + 2 < L0 by omega) hL dL_law_156 rfl ?_
  refine k_callVI 157 160 C [_, _] [_] dL_law_157 rfl (ct_X4_arm hM (off_PQ g3 o1) (off_HQ g4 o1)) mi_X4_arm ml_L_17 im_X4_arm se_X4_arm ci_X4 (hM.o) rfl rfl ⟨Nat.le_of_ble_eq_true rfl, Nat.le_of_ble_eq_true rfl⟩ (Nat.le_of_ble_eq_true rfl) hk hn (fun r2 V2 p2 => ?_)
  have z := st_ra g (rel_arm g6) p1 p2
  refine k_icmp_eq 160 707 163 C dL_law_160 (by decide) rfl (fun _ => kk V2 z.2) (fun hh => absurd z.1 hh)
set_option maxHeartbeats 2000000 in
theorem law_pivot {E : gE} {T : gT} {V : gV} {p : Program} {l : Launch} {e : Env} {s : State} {m : MethodId} {args : Array Value} {below : List Frame} {meth : Method} {c : Code} {ret : Option FieldType} {k n : Nat} {Q : State → Prop} (C : Cx E p s m args meth c RL code 4 ret) {b L0 a i : Nat} {xs : Nat → Int32} (hX : va_X b L0 xs s s.heap) (hb : b < gB E) (hL : L0 ≤ 2560) (hi : i + 5 ≤ L0) (hA : IsAll T a) (hM : IsMdl T (a + 142)) (hk : k ≤ room_1.cells) (hn : n ≤ room_1.slots) (g : GS V a) (kk : ∀ V2 : gV, GS V2 a → KW E T V2 p l e room_1 s m args below meth c 4 k n Q 707 (LL b a i) []) : KW E T V p l e room_1 s m args below meth c 4 k n Q 165 (LL b a i) [] := by
  obtain ⟨S, h, H, f, F, cs, zn, g⟩ := g
  obtain ⟨g1, g2, g3, g4, g5, g6, g7⟩ := id g
  obtain ⟨r0, ρ, gp⟩ := g1
  refine k_aload_n 165 166 C dL_law_165 rfl 2 rfl ?_
  refine k_aload_n 166 167 C dL_law_166 rfl 3 rfl ?_
  refine k_iload_n 167 168 C dL_law_167 rfl 0 rfl ?_
  refine k_iconst 168 169 C dL_law_168 rfl (v := nI 1) rfl ?_
  refine k_iadd 169 170 C dL_law_169 rfl ?_
  refine k_rwI (y := nI (i + 1)) (nI_add i 1) ?_
  refine k_sdX 170 171 C hX hb (show i + 1 < L0 by omega) hL dL_law_170 rfl ?_
  refine k_aload_n 171 172 C dL_law_171 rfl 3 rfl ?_
  refine k_iload_n 172 173 C dL_law_172 rfl 0 rfl ?_
  refine k_iconst 173 174 C dL_law_173 rfl (v := nI 2) rfl ?_
  refine k_iadd 174 175 C dL_law_174 rfl ?_
  refine k_rwI (y := nI (i + 2)) (nI_add i 2) ?_
  refine k_sdX 175 176 C hX hb (show i + 2 < L0 by omega) hL dL_law_175 rfl ?_
  refine k_callVI 176 179 C [_, _] [] dL_law_176 rfl (ct_X3_pivot hA gp) mi_X3_pivot ml_L_18 im_X3_pivot se_X3_pivot ci_X3 (hA.a.o) rfl rfl ⟨Nat.le_of_ble_eq_true rfl, Nat.le_of_ble_eq_true rfl⟩ (Nat.le_of_ble_eq_true rfl) hk hn (fun r1 V1 p1 => ?_)
  have o1 := p1.2.2.2
  refine k_aload_n 179 180 C dL_law_179 rfl 1 rfl ?_
  refine k_aload_n 180 181 C dL_law_180 rfl 3 rfl ?_
  refine k_iload_n 181 182 C dL_law_181 rfl 0 rfl ?_
  refine k_iconst 182 183 C dL_law_182 rfl (v := nI 1) rfl ?_
  refine k_iadd 183 184 C dL_law_183 rfl ?_
  refine k_rwI (y := nI (i + 1)) (nI_add i 1) ?_
  refine k_sdX 184 185 C hX hb (show i + 1 < L0 by omega) hL dL_law_184 rfl ?_
  refine k_aload_n 185 186 C dL_law_185 rfl 3 rfl ?_
  refine k_iload_n 186 187 C dL_law_186 rfl 0 rfl ?_
  refine k_iconst 187 188 C dL_law_187 rfl (v := nI 2) rfl ?_
  refine k_iadd 188 189 C dL_law_188 rfl ?_
  refine k_rwI (y := nI (i + 2)) (nI_add i 2) ?_
  refine k_sdX 189 190 C hX hb (show i + 2 < L0 by omega) hL dL_law_189 rfl ?_
  refine k_callVI 190 193 C [_, _] [_] dL_law_190 rfl (ct_X4_pivot hM (off_PQ g3 o1) (off_HQ g4 o1)) mi_X4_pivot ml_L_21 im_X4_pivot se_X4_pivot ci_X4 (hM.o) rfl rfl ⟨Nat.le_of_ble_eq_true rfl, Nat.le_of_ble_eq_true rfl⟩ (Nat.le_of_ble_eq_true rfl) hk hn (fun r2 V2 p2 => ?_)
  have z := st_ra g (rel_pivot g6) p1 p2
  refine k_icmp_eq 193 707 196 C dL_law_193 (by decide) rfl (fun _ => kk V2 z.2) (fun hh => absurd z.1 hh)
set_option maxHeartbeats 2000000 in
theorem law_set {E : gE} {T : gT} {V : gV} {p : Program} {l : Launch} {e : Env} {s : State} {m : MethodId} {args : Array Value} {below : List Frame} {meth : Method} {c : Code} {ret : Option FieldType} {k n : Nat} {Q : State → Prop} (C : Cx E p s m args meth c RL code 4 ret) {b L0 a i : Nat} {xs : Nat → Int32} (hX : va_X b L0 xs s s.heap) (hb : b < gB E) (hL : L0 ≤ 2560) (hi : i + 5 ≤ L0) (hA : IsAll T a) (hM : IsMdl T (a + 142)) (hk : k ≤ room_1.cells) (hn : n ≤ room_1.slots) (g : GS V a) (kk : ∀ V2 : gV, GS V2 a → KW E T V2 p l e room_1 s m args below meth c 4 k n Q 707 (LL b a i) []) : KW E T V p l e room_1 s m args below meth c 4 k n Q 198 (LL b a i) [] := by
  obtain ⟨S, h, H, f, F, cs, zn, g⟩ := g
  obtain ⟨g1, g2, g3, g4, g5, g6, g7⟩ := id g
  obtain ⟨r0, ρ, gp⟩ := g1
  refine k_aload_n 198 199 C dL_law_198 rfl 2 rfl ?_
  refine k_aload_n 199 200 C dL_law_199 rfl 3 rfl ?_
  refine k_iload_n 200 201 C dL_law_200 rfl 0 rfl ?_
  refine k_iconst 201 202 C dL_law_201 rfl (v := nI 1) rfl ?_
  refine k_iadd 202 203 C dL_law_202 rfl ?_
  refine k_rwI (y := nI (i + 1)) (nI_add i 1) ?_
  refine k_sdX 203 204 C hX hb (show i + 1 < L0 by omega) hL dL_law_203 rfl ?_
  refine k_aload_n 204 205 C dL_law_204 rfl 3 rfl ?_
  refine k_iload_n 205 206 C dL_law_205 rfl 0 rfl ?_
  refine k_iconst 206 207 C dL_law_206 rfl (v := nI 2) rfl ?_
  refine k_iadd 207 208 C dL_law_207 rfl ?_
  refine k_rwI (y := nI (i + 2)) (nI_add i 2) ?_
  refine k_sdX 208 209 C hX hb (show i + 2 < L0 by omega) hL dL_law_208 rfl ?_
  refine k_callVI 209 212 C [_, _] [] dL_law_209 rfl (ct_X3_set hA gp) mi_X3_set ml_L_22 im_X3_set se_X3_set ci_X3 (hA.a.o) rfl rfl ⟨Nat.le_of_ble_eq_true rfl, Nat.le_of_ble_eq_true rfl⟩ (Nat.le_of_ble_eq_true rfl) hk hn (fun r1 V1 p1 => ?_)
  have o1 := p1.2.2.2
  refine k_aload_n 212 213 C dL_law_212 rfl 1 rfl ?_
  refine k_aload_n 213 214 C dL_law_213 rfl 3 rfl ?_
  refine k_iload_n 214 215 C dL_law_214 rfl 0 rfl ?_
  refine k_iconst 215 216 C dL_law_215 rfl (v := nI 1) rfl ?_
  refine k_iadd 216 217 C dL_law_216 rfl ?_
  refine k_rwI (y := nI (i + 1)) (nI_add i 1) ?_
  refine k_sdX 217 218 C hX hb (show i + 1 < L0 by omega) hL dL_law_217 rfl ?_
  refine k_aload_n 218 219 C dL_law_218 rfl 3 rfl ?_
  refine k_iload_n 219 220 C dL_law_219 rfl 0 rfl ?_
  refine k_iconst 220 221 C dL_law_220 rfl (v := nI 2) rfl ?_
  refine k_iadd 221 222 C dL_law_221 rfl ?_
  refine k_rwI (y := nI (i + 2)) (nI_add i 2) ?_
  refine k_sdX 222 223 C hX hb (show i + 2 < L0 by omega) hL dL_law_222 rfl ?_
  refine k_callVI 223 226 C [_, _] [_] dL_law_223 rfl (ct_X4_set hM (off_PQ g3 o1) (off_HQ g4 o1)) mi_X4_set ml_L_25 im_X4_set se_X4_set ci_X4 (hM.o) rfl rfl ⟨Nat.le_of_ble_eq_true rfl, Nat.le_of_ble_eq_true rfl⟩ (Nat.le_of_ble_eq_true rfl) hk hn (fun r2 V2 p2 => ?_)
  have z := st_ra g (rel_set g6) p1 p2
  refine k_icmp_eq 226 707 229 C dL_law_226 (by decide) rfl (fun _ => kk V2 z.2) (fun hh => absurd z.1 hh)
set_option maxHeartbeats 2000000 in
theorem law_count {E : gE} {T : gT} {V : gV} {p : Program} {l : Launch} {e : Env} {s : State} {m : MethodId} {args : Array Value} {below : List Frame} {meth : Method} {c : Code} {ret : Option FieldType} {k n : Nat} {Q : State → Prop} (C : Cx E p s m args meth c RL code 4 ret) {b L0 a i : Nat} {xs : Nat → Int32} (hX : va_X b L0 xs s s.heap) (hb : b < gB E) (hL : L0 ≤ 2560) (hi : i + 5 ≤ L0) (hA : IsAll T a) (hM : IsMdl T (a + 142)) (hk : k ≤ room_1.cells) (hn : n ≤ room_1.slots) (g : GS V a) (kk : ∀ V2 : gV, GS V2 a → KW E T V2 p l e room_1 s m args below meth c 4 k n Q 707 (LL b a i) []) : KW E T V p l e room_1 s m args below meth c 4 k n Q 231 (LL b a i) [] := by
  obtain ⟨S, h, H, f, F, cs, zn, g⟩ := g
  obtain ⟨g1, g2, g3, g4, g5, g6, g7⟩ := id g
  obtain ⟨r0, ρ, gp⟩ := g1
  refine k_aload_n 231 232 C dL_law_231 rfl 2 rfl ?_
  refine k_aload_n 232 233 C dL_law_232 rfl 3 rfl ?_
  refine k_iload_n 233 234 C dL_law_233 rfl 0 rfl ?_
  refine k_iconst 234 235 C dL_law_234 rfl (v := nI 1) rfl ?_
  refine k_iadd 235 236 C dL_law_235 rfl ?_
  refine k_rwI (y := nI (i + 1)) (nI_add i 1) ?_
  refine k_sdX 236 237 C hX hb (show i + 1 < L0 by omega) hL dL_law_236 rfl ?_
  refine k_callVI 237 240 C [_] [] dL_law_237 rfl (ct_X3_count hA gp g2) mi_X3_count ml_L_26 im_X3_count se_X3_count ci_X3 (hA.a.o) rfl rfl ⟨Nat.le_of_ble_eq_true rfl, Nat.le_of_ble_eq_true rfl⟩ (Nat.le_of_ble_eq_true rfl) hk hn (fun r1 V1 p1 => ?_)
  obtain ⟨rfl, e1⟩ := p1
  refine k_aload_n 240 241 C dL_law_240 rfl 1 rfl ?_
  refine k_aload_n 241 242 C dL_law_241 rfl 3 rfl ?_
  refine k_iload_n 242 243 C dL_law_242 rfl 0 rfl ?_
  refine k_iconst 243 244 C dL_law_243 rfl (v := nI 1) rfl ?_
  refine k_iadd 244 245 C dL_law_244 rfl ?_
  refine k_rwI (y := nI (i + 1)) (nI_add i 1) ?_
  refine k_sdX 245 246 C hX hb (show i + 1 < L0 by omega) hL dL_law_245 rfl ?_
  refine k_callVI 246 249 C [_] [_] dL_law_246 rfl (ct_X4_count hM g3 g4 g6.s8 g5.1) mi_X4_count ml_L_30 im_X4_count se_X4_count ci_X4 (hM.o) rfl rfl ⟨Nat.le_of_ble_eq_true rfl, Nat.le_of_ble_eq_true rfl⟩ (Nat.le_of_ble_eq_true rfl) hk hn (fun r2 V2 p2 => ?_)
  have z := st_pu g (rel_count g6) ⟨rfl, e1⟩ p2
  refine k_icmp_eq 249 707 252 C dL_law_249 (by decide) rfl (fun _ => kk V2 z.2) (fun hh => absurd z.1 hh)
set_option maxHeartbeats 2000000 in
theorem law_sharpen {E : gE} {T : gT} {V : gV} {p : Program} {l : Launch} {e : Env} {s : State} {m : MethodId} {args : Array Value} {below : List Frame} {meth : Method} {c : Code} {ret : Option FieldType} {k n : Nat} {Q : State → Prop} (C : Cx E p s m args meth c RL code 4 ret) {b L0 a i : Nat} {xs : Nat → Int32} (hX : va_X b L0 xs s s.heap) (hb : b < gB E) (hL : L0 ≤ 2560) (hi : i + 5 ≤ L0) (hA : IsAll T a) (hM : IsMdl T (a + 142)) (hk : k ≤ room_1.cells) (hn : n ≤ room_1.slots) (g : GS V a) (kk : ∀ V2 : gV, GS V2 a → KW E T V2 p l e room_1 s m args below meth c 4 k n Q 707 (LL b a i) []) : KW E T V p l e room_1 s m args below meth c 4 k n Q 254 (LL b a i) [] := by
  obtain ⟨S, h, H, f, F, cs, zn, g⟩ := g
  obtain ⟨g1, g2, g3, g4, g5, g6, g7⟩ := id g
  obtain ⟨r0, ρ, gp⟩ := g1
  refine k_aload_n 254 255 C dL_law_254 rfl 2 rfl ?_
  refine k_callVI 255 258 C [] [] dL_law_255 rfl (ct_X3_sharpen hA gp) mi_X3_sharpen ml_L_31 im_X3_sharpen se_X3_sharpen ci_X3 (hA.a.o) rfl rfl ⟨Nat.le_of_ble_eq_true rfl, Nat.le_of_ble_eq_true rfl⟩ (Nat.le_of_ble_eq_true rfl) hk hn (fun r1 V1 p1 => ?_)
  have o1 := p1.2.2.2
  refine k_aload_n 258 259 C dL_law_258 rfl 1 rfl ?_
  refine k_callVI 259 262 C [] [_] dL_law_259 rfl (ct_X4_sharpen hM (off_PQ g3 o1) (off_HQ g4 o1)) mi_X4_sharpen ml_L_35 im_X4_sharpen se_X4_sharpen ci_X4 (hM.o) rfl rfl ⟨Nat.le_of_ble_eq_true rfl, Nat.le_of_ble_eq_true rfl⟩ (Nat.le_of_ble_eq_true rfl) hk hn (fun r2 V2 p2 => ?_)
  have z := st_ra g (rel_sharpen g6) p1 p2
  refine k_icmp_eq 262 707 265 C dL_law_262 (by decide) rfl (fun _ => kk V2 z.2) (fun hh => absurd z.1 hh)
set_option maxHeartbeats 2000000 in
theorem law_draw {E : gE} {T : gT} {V : gV} {p : Program} {l : Launch} {e : Env} {s : State} {m : MethodId} {args : Array Value} {below : List Frame} {meth : Method} {c : Code} {ret : Option FieldType} {k n : Nat} {Q : State → Prop} (C : Cx E p s m args meth c RL code 4 ret) {b L0 a i : Nat} {xs : Nat → Int32} (hX : va_X b L0 xs s s.heap) (hb : b < gB E) (hL : L0 ≤ 2560) (hi : i + 5 ≤ L0) (hA : IsAll T a) (hM : IsMdl T (a + 142)) (hk : k ≤ room_1.cells) (hn : n ≤ room_1.slots) (g : GS V a) (kk : ∀ V2 : gV, GS V2 a → KW E T V2 p l e room_1 s m args below meth c 4 k n Q 707 (LL b a i) []) : KW E T V p l e room_1 s m args below meth c 4 k n Q 267 (LL b a i) [] := by
  obtain ⟨S, h, H, f, F, cs, zn, g⟩ := g
  obtain ⟨g1, g2, g3, g4, g5, g6, g7⟩ := id g
  obtain ⟨r0, ρ, gp⟩ := g1
  refine k_aload_n 267 268 C dL_law_267 rfl 2 rfl ?_
  refine k_callVI 268 271 C [] [] dL_law_268 rfl (ct_X3_draw hA gp) mi_X3_draw ml_L_36 im_X3_draw se_X3_draw ci_X3 (hA.a.o) rfl rfl ⟨Nat.le_of_ble_eq_true rfl, Nat.le_of_ble_eq_true rfl⟩ (Nat.le_of_ble_eq_true rfl) hk hn (fun r1 V1 p1 => ?_)
  have o1 := p1.2.2.2
  refine k_aload_n 271 272 C dL_law_271 rfl 1 rfl ?_
  refine k_callVI 272 275 C [] [_] dL_law_272 rfl (ct_X4_draw hM (off_PQ g3 o1) (off_HQ g4 o1) g6.w.1 g6.n6) mi_X4_draw ml_L_39 im_X4_draw se_X4_draw ci_X4 (hM.o) rfl rfl ⟨Nat.le_of_ble_eq_true rfl, Nat.le_of_ble_eq_true rfl⟩ (Nat.le_of_ble_eq_true rfl) hk hn (fun r2 V2 p2 => ?_)
  have z := st_ra g (rel_draw g6) p1 p2
  refine k_icmp_eq 275 707 278 C dL_law_275 (by decide) rfl (fun _ => kk V2 z.2) (fun hh => absurd z.1 hh)
set_option maxHeartbeats 2000000 in
theorem law_point {E : gE} {T : gT} {V : gV} {p : Program} {l : Launch} {e : Env} {s : State} {m : MethodId} {args : Array Value} {below : List Frame} {meth : Method} {c : Code} {ret : Option FieldType} {k n : Nat} {Q : State → Prop} (C : Cx E p s m args meth c RL code 4 ret) {b L0 a i : Nat} {xs : Nat → Int32} (hX : va_X b L0 xs s s.heap) (hb : b < gB E) (hL : L0 ≤ 2560) (hi : i + 5 ≤ L0) (hA : IsAll T a) (hM : IsMdl T (a + 142)) (hk : k ≤ room_1.cells) (hn : n ≤ room_1.slots) (g : GS V a) (kk : ∀ V2 : gV, GS V2 a → KW E T V2 p l e room_1 s m args below meth c 4 k n Q 707 (LL b a i) []) : KW E T V p l e room_1 s m args below meth c 4 k n Q 280 (LL b a i) [] := by
  obtain ⟨S, h, H, f, F, cs, zn, g⟩ := g
  obtain ⟨g1, g2, g3, g4, g5, g6, g7⟩ := id g
  obtain ⟨r0, ρ, gp⟩ := g1
  refine k_aload_n 280 281 C dL_law_280 rfl 2 rfl ?_
  refine k_aload_n 281 282 C dL_law_281 rfl 3 rfl ?_
  refine k_iload_n 282 283 C dL_law_282 rfl 0 rfl ?_
  refine k_iconst 283 284 C dL_law_283 rfl (v := nI 1) rfl ?_
  refine k_iadd 284 285 C dL_law_284 rfl ?_
  refine k_rwI (y := nI (i + 1)) (nI_add i 1) ?_
  refine k_sdX 285 286 C hX hb (show i + 1 < L0 by omega) hL dL_law_285 rfl ?_
  refine k_aload_n 286 287 C dL_law_286 rfl 3 rfl ?_
  refine k_iload_n 287 288 C dL_law_287 rfl 0 rfl ?_
  refine k_iconst 288 289 C dL_law_288 rfl (v := nI 2) rfl ?_
  refine k_iadd 289 290 C dL_law_289 rfl ?_
  refine k_rwI (y := nI (i + 2)) (nI_add i 2) ?_
  refine k_sdX 290 291 C hX hb (show i + 2 < L0 by omega) hL dL_law_290 rfl ?_
  refine k_aload_n 291 292 C dL_law_291 rfl 3 rfl ?_
  refine k_iload_n 292 293 C dL_law_292 rfl 0 rfl ?_
  refine k_iconst 293 294 C dL_law_293 rfl (v := nI 3) rfl ?_
  refine k_iadd 294 295 C dL_law_294 rfl ?_
  refine k_rwI (y := nI (i + 3)) (nI_add i 3) ?_
  refine k_sdX 295 296 C hX hb (show i + 3 < L0 by omega) hL dL_law_295 rfl ?_
  refine k_aload_n 296 297 C dL_law_296 rfl 3 rfl ?_
  refine k_iload_n 297 298 C dL_law_297 rfl 0 rfl ?_
  refine k_iconst 298 299 C dL_law_298 rfl (v := nI 4) rfl ?_
  refine k_iadd 299 300 C dL_law_299 rfl ?_
  refine k_rwI (y := nI (i + 4)) (nI_add i 4) ?_
  refine k_sdX 300 301 C hX hb (show i + 4 < L0 by omega) hL dL_law_300 rfl ?_
  refine k_callVI 301 304 C [_, _, _, _] [] dL_law_301 rfl (ct_X3_point hA gp) mi_X3_point ml_L_40 im_X3_point se_X3_point ci_X3 (hA.a.o) rfl rfl ⟨Nat.le_of_ble_eq_true rfl, Nat.le_of_ble_eq_true rfl⟩ (Nat.le_of_ble_eq_true rfl) hk hn (fun r1 V1 p1 => ?_)
  have o1 := p1.2.2.2
  refine k_aload_n 304 305 C dL_law_304 rfl 1 rfl ?_
  refine k_aload_n 305 306 C dL_law_305 rfl 3 rfl ?_
  refine k_iload_n 306 307 C dL_law_306 rfl 0 rfl ?_
  refine k_iconst 307 308 C dL_law_307 rfl (v := nI 1) rfl ?_
  refine k_iadd 308 309 C dL_law_308 rfl ?_
  refine k_rwI (y := nI (i + 1)) (nI_add i 1) ?_
  refine k_sdX 309 310 C hX hb (show i + 1 < L0 by omega) hL dL_law_309 rfl ?_
  refine k_aload_n 310 311 C dL_law_310 rfl 3 rfl ?_
  refine k_iload_n 311 312 C dL_law_311 rfl 0 rfl ?_
  refine k_iconst 312 313 C dL_law_312 rfl (v := nI 2) rfl ?_
  refine k_iadd 313 314 C dL_law_313 rfl ?_
  refine k_rwI (y := nI (i + 2)) (nI_add i 2) ?_
  refine k_sdX 314 315 C hX hb (show i + 2 < L0 by omega) hL dL_law_314 rfl ?_
  refine k_aload_n 315 316 C dL_law_315 rfl 3 rfl ?_
  refine k_iload_n 316 317 C dL_law_316 rfl 0 rfl ?_
  refine k_iconst 317 318 C dL_law_317 rfl (v := nI 3) rfl ?_
  refine k_iadd 318 319 C dL_law_318 rfl ?_
  refine k_rwI (y := nI (i + 3)) (nI_add i 3) ?_
  refine k_sdX 319 320 C hX hb (show i + 3 < L0 by omega) hL dL_law_319 rfl ?_
  refine k_aload_n 320 321 C dL_law_320 rfl 3 rfl ?_
  refine k_iload_n 321 322 C dL_law_321 rfl 0 rfl ?_
  refine k_iconst 322 323 C dL_law_322 rfl (v := nI 4) rfl ?_
  refine k_iadd 323 324 C dL_law_323 rfl ?_
  refine k_rwI (y := nI (i + 4)) (nI_add i 4) ?_
  refine k_sdX 324 325 C hX hb (show i + 4 < L0 by omega) hL dL_law_324 rfl ?_
  refine k_callVI 325 328 C [_, _, _, _] [_] dL_law_325 rfl (ct_X4_point (np := npS S) hM (off_PQ g3 o1) (off_HQ g4 o1) g6.w (rel_ptOK g6)) mi_X4_point ml_L_44 im_X4_point se_X4_point ci_X4 (hM.o) rfl rfl ⟨Nat.le_of_ble_eq_true rfl, Nat.le_of_ble_eq_true rfl⟩ (Nat.le_of_ble_eq_true rfl) hk hn (fun r2 V2 p2 => ?_)
  have z := st_ra g (rel_point g6) p1 p2
  refine k_icmp_eq 328 707 331 C dL_law_328 (by decide) rfl (fun _ => kk V2 z.2) (fun hh => absurd z.1 hh)
set_option maxHeartbeats 2000000 in
theorem law_remove {E : gE} {T : gT} {V : gV} {p : Program} {l : Launch} {e : Env} {s : State} {m : MethodId} {args : Array Value} {below : List Frame} {meth : Method} {c : Code} {ret : Option FieldType} {k n : Nat} {Q : State → Prop} (C : Cx E p s m args meth c RL code 4 ret) {b L0 a i : Nat} {xs : Nat → Int32} (hX : va_X b L0 xs s s.heap) (hb : b < gB E) (hL : L0 ≤ 2560) (hi : i + 5 ≤ L0) (hA : IsAll T a) (hM : IsMdl T (a + 142)) (hk : k ≤ room_1.cells) (hn : n ≤ room_1.slots) (g : GS V a) (kk : ∀ V2 : gV, GS V2 a → KW E T V2 p l e room_1 s m args below meth c 4 k n Q 707 (LL b a i) []) : KW E T V p l e room_1 s m args below meth c 4 k n Q 333 (LL b a i) [] := by
  obtain ⟨S, h, H, f, F, cs, zn, g⟩ := g
  obtain ⟨g1, g2, g3, g4, g5, g6, g7⟩ := id g
  obtain ⟨r0, ρ, gp⟩ := g1
  refine k_aload_n 333 334 C dL_law_333 rfl 2 rfl ?_
  refine k_aload_n 334 335 C dL_law_334 rfl 3 rfl ?_
  refine k_iload_n 335 336 C dL_law_335 rfl 0 rfl ?_
  refine k_iconst 336 337 C dL_law_336 rfl (v := nI 1) rfl ?_
  refine k_iadd 337 338 C dL_law_337 rfl ?_
  refine k_rwI (y := nI (i + 1)) (nI_add i 1) ?_
  refine k_sdX 338 339 C hX hb (show i + 1 < L0 by omega) hL dL_law_338 rfl ?_
  refine k_callVI 339 342 C [_] [] dL_law_339 rfl (ct_X3_remove hA gp) mi_X3_remove ml_L_45 im_X3_remove se_X3_remove ci_X3 (hA.a.o) rfl rfl ⟨Nat.le_of_ble_eq_true rfl, Nat.le_of_ble_eq_true rfl⟩ (Nat.le_of_ble_eq_true rfl) hk hn (fun r1 V1 p1 => ?_)
  have o1 := p1.2.2.2
  refine k_aload_n 342 343 C dL_law_342 rfl 1 rfl ?_
  refine k_aload_n 343 344 C dL_law_343 rfl 3 rfl ?_
  refine k_iload_n 344 345 C dL_law_344 rfl 0 rfl ?_
  refine k_iconst 345 346 C dL_law_345 rfl (v := nI 1) rfl ?_
  refine k_iadd 346 347 C dL_law_346 rfl ?_
  refine k_rwI (y := nI (i + 1)) (nI_add i 1) ?_
  refine k_sdX 347 348 C hX hb (show i + 1 < L0 by omega) hL dL_law_347 rfl ?_
  refine k_callVI 348 351 C [_] [_] dL_law_348 rfl (ct_X4_remove hM (off_PQ g3 o1) (off_HQ g4 o1) g6.w) mi_X4_remove ml_L_48 im_X4_remove se_X4_remove ci_X4 (hM.o) rfl rfl ⟨Nat.le_of_ble_eq_true rfl, Nat.le_of_ble_eq_true rfl⟩ (Nat.le_of_ble_eq_true rfl) hk hn (fun r2 V2 p2 => ?_)
  have z := st_ra g (rel_remove g6) p1 p2
  refine k_icmp_eq 351 707 354 C dL_law_351 (by decide) rfl (fun _ => kk V2 z.2) (fun hh => absurd z.1 hh)
set_option maxHeartbeats 2000000 in
theorem law_copy {E : gE} {T : gT} {V : gV} {p : Program} {l : Launch} {e : Env} {s : State} {m : MethodId} {args : Array Value} {below : List Frame} {meth : Method} {c : Code} {ret : Option FieldType} {k n : Nat} {Q : State → Prop} (C : Cx E p s m args meth c RL code 4 ret) {b L0 a i : Nat} {xs : Nat → Int32} (hX : va_X b L0 xs s s.heap) (hb : b < gB E) (hL : L0 ≤ 2560) (hi : i + 5 ≤ L0) (hA : IsAll T a) (hM : IsMdl T (a + 142)) (hk : k ≤ room_1.cells) (hn : n ≤ room_1.slots) (g : GS V a) (kk : ∀ V2 : gV, GS V2 a → KW E T V2 p l e room_1 s m args below meth c 4 k n Q 707 (LL b a i) []) : KW E T V p l e room_1 s m args below meth c 4 k n Q 356 (LL b a i) [] := by
  obtain ⟨S, h, H, f, F, cs, zn, g⟩ := g
  obtain ⟨g1, g2, g3, g4, g5, g6, g7⟩ := id g
  obtain ⟨r0, ρ, gp⟩ := g1
  refine k_aload_n 356 357 C dL_law_356 rfl 2 rfl ?_
  refine k_aload_n 357 358 C dL_law_357 rfl 3 rfl ?_
  refine k_iload_n 358 359 C dL_law_358 rfl 0 rfl ?_
  refine k_iconst 359 360 C dL_law_359 rfl (v := nI 1) rfl ?_
  refine k_iadd 360 361 C dL_law_360 rfl ?_
  refine k_rwI (y := nI (i + 1)) (nI_add i 1) ?_
  refine k_sdX 361 362 C hX hb (show i + 1 < L0 by omega) hL dL_law_361 rfl ?_
  refine k_callVI 362 365 C [_] [] dL_law_362 rfl (ct_X3_copy hA gp) mi_X3_copy ml_L_49 im_X3_copy se_X3_copy ci_X3 (hA.a.o) rfl rfl ⟨Nat.le_of_ble_eq_true rfl, Nat.le_of_ble_eq_true rfl⟩ (Nat.le_of_ble_eq_true rfl) hk hn (fun r1 V1 p1 => ?_)
  have o1 := p1.2.2.2
  refine k_aload_n 365 366 C dL_law_365 rfl 1 rfl ?_
  refine k_aload_n 366 367 C dL_law_366 rfl 3 rfl ?_
  refine k_iload_n 367 368 C dL_law_367 rfl 0 rfl ?_
  refine k_iconst 368 369 C dL_law_368 rfl (v := nI 1) rfl ?_
  refine k_iadd 369 370 C dL_law_369 rfl ?_
  refine k_rwI (y := nI (i + 1)) (nI_add i 1) ?_
  refine k_sdX 370 371 C hX hb (show i + 1 < L0 by omega) hL dL_law_370 rfl ?_
  refine k_callVI 371 374 C [_] [_] dL_law_371 rfl (ct_X4_copy (np := npS S) hM (off_PQ g3 o1) (off_HQ g4 o1) g6.w g6.s8 (rel_CpOK g6) (rel_CyOK g6)) mi_X4_copy ml_L_52 im_X4_copy se_X4_copy ci_X4 (hM.o) rfl rfl ⟨Nat.le_of_ble_eq_true rfl, Nat.le_of_ble_eq_true rfl⟩ (Nat.le_of_ble_eq_true rfl) hk hn (fun r2 V2 p2 => ?_)
  have z := st_ra g (rel_copy g6) p1 p2
  refine k_icmp_eq 374 707 377 C dL_law_374 (by decide) rfl (fun _ => kk V2 z.2) (fun hh => absurd z.1 hh)
set_option maxHeartbeats 2000000 in
theorem law_why {E : gE} {T : gT} {V : gV} {p : Program} {l : Launch} {e : Env} {s : State} {m : MethodId} {args : Array Value} {below : List Frame} {meth : Method} {c : Code} {ret : Option FieldType} {k n : Nat} {Q : State → Prop} (C : Cx E p s m args meth c RL code 4 ret) {b L0 a i : Nat} {xs : Nat → Int32} (hX : va_X b L0 xs s s.heap) (hb : b < gB E) (hL : L0 ≤ 2560) (hi : i + 5 ≤ L0) (hA : IsAll T a) (hM : IsMdl T (a + 142)) (hk : k ≤ room_1.cells) (hn : n ≤ room_1.slots) (g : GS V a) (kk : ∀ V2 : gV, GS V2 a → KW E T V2 p l e room_1 s m args below meth c 4 k n Q 707 (LL b a i) []) : KW E T V p l e room_1 s m args below meth c 4 k n Q 379 (LL b a i) [] := by
  obtain ⟨S, h, H, f, F, cs, zn, g⟩ := g
  obtain ⟨g1, g2, g3, g4, g5, g6, g7⟩ := id g
  obtain ⟨r0, ρ, gp⟩ := g1
  refine k_aload_n 379 380 C dL_law_379 rfl 2 rfl ?_
  refine k_aload_n 380 381 C dL_law_380 rfl 3 rfl ?_
  refine k_iload_n 381 382 C dL_law_381 rfl 0 rfl ?_
  refine k_iconst 382 383 C dL_law_382 rfl (v := nI 1) rfl ?_
  refine k_iadd 383 384 C dL_law_383 rfl ?_
  refine k_rwI (y := nI (i + 1)) (nI_add i 1) ?_
  refine k_sdX 384 385 C hX hb (show i + 1 < L0 by omega) hL dL_law_384 rfl ?_
  refine k_callVI 385 388 C [_] [] dL_law_385 rfl (ct_X3_why hA gp) mi_X3_why ml_L_53 im_X3_why se_X3_why ci_X3 (hA.a.o) rfl rfl ⟨Nat.le_of_ble_eq_true rfl, Nat.le_of_ble_eq_true rfl⟩ (Nat.le_of_ble_eq_true rfl) hk hn (fun r1 V1 p1 => ?_)
  have o1 := p1.2.2.2
  refine k_aload_n 388 389 C dL_law_388 rfl 1 rfl ?_
  refine k_aload_n 389 390 C dL_law_389 rfl 3 rfl ?_
  refine k_iload_n 390 391 C dL_law_390 rfl 0 rfl ?_
  refine k_iconst 391 392 C dL_law_391 rfl (v := nI 1) rfl ?_
  refine k_iadd 392 393 C dL_law_392 rfl ?_
  refine k_rwI (y := nI (i + 1)) (nI_add i 1) ?_
  refine k_sdX 393 394 C hX hb (show i + 1 < L0 by omega) hL dL_law_393 rfl ?_
  refine k_callVI 394 397 C [_] [_] dL_law_394 rfl (ct_X4_why (np := npS S) hM (off_PQ g3 o1) (off_HQ g4 o1) g6.w g6.s8 (rel_CpOK g6)) mi_X4_why ml_L_56 im_X4_why se_X4_why ci_X4 (hM.o) rfl rfl ⟨Nat.le_of_ble_eq_true rfl, Nat.le_of_ble_eq_true rfl⟩ (Nat.le_of_ble_eq_true rfl) hk hn (fun r2 V2 p2 => ?_)
  have z := st_why g (rel_why g6) p1 p2
  refine k_icmp_eq 397 707 400 C dL_law_397 (by decide) rfl (fun _ => kk V2 z.2) (fun hh => absurd z.1 hh)
set_option maxHeartbeats 2000000 in
theorem law_drawing {E : gE} {T : gT} {V : gV} {p : Program} {l : Launch} {e : Env} {s : State} {m : MethodId} {args : Array Value} {below : List Frame} {meth : Method} {c : Code} {ret : Option FieldType} {k n : Nat} {Q : State → Prop} (C : Cx E p s m args meth c RL code 4 ret) {b L0 a i : Nat} {xs : Nat → Int32} (hX : va_X b L0 xs s s.heap) (hb : b < gB E) (hL : L0 ≤ 2560) (hi : i + 5 ≤ L0) (hA : IsAll T a) (hM : IsMdl T (a + 142)) (hk : k ≤ room_1.cells) (hn : n ≤ room_1.slots) (g : GS V a) (kk : ∀ V2 : gV, GS V2 a → KW E T V2 p l e room_1 s m args below meth c 4 k n Q 707 (LL b a i) []) : KW E T V p l e room_1 s m args below meth c 4 k n Q 402 (LL b a i) [] := by
  obtain ⟨S, h, H, f, F, cs, zn, g⟩ := g
  obtain ⟨g1, g2, g3, g4, g5, g6, g7⟩ := id g
  obtain ⟨r0, ρ, gp⟩ := g1
  refine k_aload_n 402 403 C dL_law_402 rfl 2 rfl ?_
  refine k_aload_n 403 404 C dL_law_403 rfl 3 rfl ?_
  refine k_iload_n 404 405 C dL_law_404 rfl 0 rfl ?_
  refine k_iconst 405 406 C dL_law_405 rfl (v := nI 1) rfl ?_
  refine k_iadd 406 407 C dL_law_406 rfl ?_
  refine k_rwI (y := nI (i + 1)) (nI_add i 1) ?_
  refine k_sdX 407 408 C hX hb (show i + 1 < L0 by omega) hL dL_law_407 rfl ?_
  refine k_aload_n 408 409 C dL_law_408 rfl 3 rfl ?_
  refine k_iload_n 409 410 C dL_law_409 rfl 0 rfl ?_
  refine k_iconst 410 411 C dL_law_410 rfl (v := nI 2) rfl ?_
  refine k_iadd 411 412 C dL_law_411 rfl ?_
  refine k_rwI (y := nI (i + 2)) (nI_add i 2) ?_
  refine k_sdX 412 413 C hX hb (show i + 2 < L0 by omega) hL dL_law_412 rfl ?_
  refine k_callVI 413 416 C [_, _] [] dL_law_413 rfl (ct_X3_drawing hA gp (fun j hj => ⟨(rel_r32 g6 hj).2.2, (rel_r32 g6 hj).1 ▸ (rel_r32 g6 hj).2.1⟩)) mi_X3_drawing ml_L_57 im_X3_drawing se_X3_drawing ci_X3 (hA.a.o) rfl rfl ⟨Nat.le_of_ble_eq_true rfl, Nat.le_of_ble_eq_true rfl⟩ (Nat.le_of_ble_eq_true rfl) hk hn (fun r1 V1 p1 => ?_)
  obtain ⟨rfl, e1⟩ := p1
  refine k_aload_n 416 417 C dL_law_416 rfl 1 rfl ?_
  refine k_aload_n 417 418 C dL_law_417 rfl 3 rfl ?_
  refine k_iload_n 418 419 C dL_law_418 rfl 0 rfl ?_
  refine k_iconst 419 420 C dL_law_419 rfl (v := nI 1) rfl ?_
  refine k_iadd 420 421 C dL_law_420 rfl ?_
  refine k_rwI (y := nI (i + 1)) (nI_add i 1) ?_
  refine k_sdX 421 422 C hX hb (show i + 1 < L0 by omega) hL dL_law_421 rfl ?_
  refine k_aload_n 422 423 C dL_law_422 rfl 3 rfl ?_
  refine k_iload_n 423 424 C dL_law_423 rfl 0 rfl ?_
  refine k_iconst 424 425 C dL_law_424 rfl (v := nI 2) rfl ?_
  refine k_iadd 425 426 C dL_law_425 rfl ?_
  refine k_rwI (y := nI (i + 2)) (nI_add i 2) ?_
  refine k_sdX 426 427 C hX hb (show i + 2 < L0 by omega) hL dL_law_426 rfl ?_
  refine k_callVI 427 430 C [_, _] [_] dL_law_427 rfl (ct_X4_drawing (np := npS S) hM g3 g6.w g6.par (fun d hd => (rel_r32 g6 hd).2.1)) mi_X4_drawing ml_L_60 im_X4_drawing se_X4_drawing ci_X4 (hM.o) rfl rfl ⟨Nat.le_of_ble_eq_true rfl, Nat.le_of_ble_eq_true rfl⟩ (Nat.le_of_ble_eq_true rfl) hk hn (fun r2 V2 p2 => ?_)
  have z := st_pu g (rel_drawing g6) ⟨rfl, e1⟩ p2
  refine k_icmp_eq 430 707 433 C dL_law_430 (by decide) rfl (fun _ => kk V2 z.2) (fun hh => absurd z.1 hh)
set_option maxHeartbeats 2000000 in
theorem law_ratio {E : gE} {T : gT} {V : gV} {p : Program} {l : Launch} {e : Env} {s : State} {m : MethodId} {args : Array Value} {below : List Frame} {meth : Method} {c : Code} {ret : Option FieldType} {k n : Nat} {Q : State → Prop} (C : Cx E p s m args meth c RL code 4 ret) {b L0 a i : Nat} {xs : Nat → Int32} (hX : va_X b L0 xs s s.heap) (hb : b < gB E) (hL : L0 ≤ 2560) (hi : i + 5 ≤ L0) (hA : IsAll T a) (hM : IsMdl T (a + 142)) (hk : k ≤ room_1.cells) (hn : n ≤ room_1.slots) (g : GS V a) (kk : ∀ V2 : gV, GS V2 a → KW E T V2 p l e room_1 s m args below meth c 4 k n Q 707 (LL b a i) []) : KW E T V p l e room_1 s m args below meth c 4 k n Q 435 (LL b a i) [] := by
  obtain ⟨S, h, H, f, F, cs, zn, g⟩ := g
  obtain ⟨g1, g2, g3, g4, g5, g6, g7⟩ := id g
  obtain ⟨r0, ρ, gp⟩ := g1
  refine k_aload_n 435 436 C dL_law_435 rfl 2 rfl ?_
  refine k_aload_n 436 437 C dL_law_436 rfl 3 rfl ?_
  refine k_iload_n 437 438 C dL_law_437 rfl 0 rfl ?_
  refine k_iconst 438 439 C dL_law_438 rfl (v := nI 1) rfl ?_
  refine k_iadd 439 440 C dL_law_439 rfl ?_
  refine k_rwI (y := nI (i + 1)) (nI_add i 1) ?_
  refine k_sdX 440 441 C hX hb (show i + 1 < L0 by omega) hL dL_law_440 rfl ?_
  refine k_aload_n 441 442 C dL_law_441 rfl 3 rfl ?_
  refine k_iload_n 442 443 C dL_law_442 rfl 0 rfl ?_
  refine k_iconst 443 444 C dL_law_443 rfl (v := nI 2) rfl ?_
  refine k_iadd 444 445 C dL_law_444 rfl ?_
  refine k_rwI (y := nI (i + 2)) (nI_add i 2) ?_
  refine k_sdX 445 446 C hX hb (show i + 2 < L0 by omega) hL dL_law_445 rfl ?_
  refine k_callVI 446 449 C [_, _] [] dL_law_446 rfl (ct_X3_ratio hA gp) mi_X3_ratio ml_L_61 im_X3_ratio se_X3_ratio ci_X3 (hA.a.o) rfl rfl ⟨Nat.le_of_ble_eq_true rfl, Nat.le_of_ble_eq_true rfl⟩ (Nat.le_of_ble_eq_true rfl) hk hn (fun r1 V1 p1 => ?_)
  obtain ⟨rfl, e1⟩ := p1
  refine k_aload_n 449 450 C dL_law_449 rfl 1 rfl ?_
  refine k_aload_n 450 451 C dL_law_450 rfl 3 rfl ?_
  refine k_iload_n 451 452 C dL_law_451 rfl 0 rfl ?_
  refine k_iconst 452 453 C dL_law_452 rfl (v := nI 1) rfl ?_
  refine k_iadd 453 454 C dL_law_453 rfl ?_
  refine k_rwI (y := nI (i + 1)) (nI_add i 1) ?_
  refine k_sdX 454 455 C hX hb (show i + 1 < L0 by omega) hL dL_law_454 rfl ?_
  refine k_aload_n 455 456 C dL_law_455 rfl 3 rfl ?_
  refine k_iload_n 456 457 C dL_law_456 rfl 0 rfl ?_
  refine k_iconst 457 458 C dL_law_457 rfl (v := nI 2) rfl ?_
  refine k_iadd 458 459 C dL_law_458 rfl ?_
  refine k_rwI (y := nI (i + 2)) (nI_add i 2) ?_
  refine k_sdX 459 460 C hX hb (show i + 2 < L0 by omega) hL dL_law_459 rfl ?_
  refine k_callVI 460 463 C [_, _] [_] dL_law_460 rfl (ct_X4_ratio (np := npS S) hM g3 g6.w) mi_X4_ratio ml_L_64 im_X4_ratio se_X4_ratio ci_X4 (hM.o) rfl rfl ⟨Nat.le_of_ble_eq_true rfl, Nat.le_of_ble_eq_true rfl⟩ (Nat.le_of_ble_eq_true rfl) hk hn (fun r2 V2 p2 => ?_)
  have z := st_pu g (rel_ratio g6) ⟨rfl, e1⟩ p2
  refine k_icmp_eq 463 707 466 C dL_law_463 (by decide) rfl (fun _ => kk V2 z.2) (fun hh => absurd z.1 hh)
set_option maxHeartbeats 2000000 in
theorem law_pointInfo {E : gE} {T : gT} {V : gV} {p : Program} {l : Launch} {e : Env} {s : State} {m : MethodId} {args : Array Value} {below : List Frame} {meth : Method} {c : Code} {ret : Option FieldType} {k n : Nat} {Q : State → Prop} (C : Cx E p s m args meth c RL code 4 ret) {b L0 a i : Nat} {xs : Nat → Int32} (hX : va_X b L0 xs s s.heap) (hb : b < gB E) (hL : L0 ≤ 2560) (hi : i + 5 ≤ L0) (hA : IsAll T a) (hM : IsMdl T (a + 142)) (hk : k ≤ room_1.cells) (hn : n ≤ room_1.slots) (g : GS V a) (kk : ∀ V2 : gV, GS V2 a → KW E T V2 p l e room_1 s m args below meth c 4 k n Q 707 (LL b a i) []) : KW E T V p l e room_1 s m args below meth c 4 k n Q 468 (LL b a i) [] := by
  obtain ⟨S, h, H, f, F, cs, zn, g⟩ := g
  obtain ⟨g1, g2, g3, g4, g5, g6, g7⟩ := id g
  obtain ⟨r0, ρ, gp⟩ := g1
  refine k_aload_n 468 469 C dL_law_468 rfl 2 rfl ?_
  refine k_aload_n 469 470 C dL_law_469 rfl 3 rfl ?_
  refine k_iload_n 470 471 C dL_law_470 rfl 0 rfl ?_
  refine k_iconst 471 472 C dL_law_471 rfl (v := nI 1) rfl ?_
  refine k_iadd 472 473 C dL_law_472 rfl ?_
  refine k_rwI (y := nI (i + 1)) (nI_add i 1) ?_
  refine k_sdX 473 474 C hX hb (show i + 1 < L0 by omega) hL dL_law_473 rfl ?_
  refine k_aload_n 474 475 C dL_law_474 rfl 3 rfl ?_
  refine k_iload_n 475 476 C dL_law_475 rfl 0 rfl ?_
  refine k_iconst 476 477 C dL_law_476 rfl (v := nI 2) rfl ?_
  refine k_iadd 477 478 C dL_law_477 rfl ?_
  refine k_rwI (y := nI (i + 2)) (nI_add i 2) ?_
  refine k_sdX 478 479 C hX hb (show i + 2 < L0 by omega) hL dL_law_478 rfl ?_
  refine k_aload_n 479 480 C dL_law_479 rfl 3 rfl ?_
  refine k_iload_n 480 481 C dL_law_480 rfl 0 rfl ?_
  refine k_iconst 481 482 C dL_law_481 rfl (v := nI 3) rfl ?_
  refine k_iadd 482 483 C dL_law_482 rfl ?_
  refine k_rwI (y := nI (i + 3)) (nI_add i 3) ?_
  refine k_sdX 483 484 C hX hb (show i + 3 < L0 by omega) hL dL_law_483 rfl ?_
  refine k_callVL 484 487 C [_, _, _] [] dL_law_484 rfl (ct_X3_pointInfo hA gp) mi_X3_pointInfo ml_L_65 im_X3_pointInfo se_X3_pointInfo ci_X3 (hA.a.o) rfl rfl ⟨Nat.le_of_ble_eq_true rfl, Nat.le_of_ble_eq_true rfl⟩ (Nat.le_of_ble_eq_true rfl) hk hn (fun r1 V1 p1 => ?_)
  obtain ⟨rfl, e1⟩ := p1
  refine k_aload_n 487 488 C dL_law_487 rfl 1 rfl ?_
  refine k_aload_n 488 489 C dL_law_488 rfl 3 rfl ?_
  refine k_iload_n 489 490 C dL_law_489 rfl 0 rfl ?_
  refine k_iconst 490 491 C dL_law_490 rfl (v := nI 1) rfl ?_
  refine k_iadd 491 492 C dL_law_491 rfl ?_
  refine k_rwI (y := nI (i + 1)) (nI_add i 1) ?_
  refine k_sdX 492 493 C hX hb (show i + 1 < L0 by omega) hL dL_law_492 rfl ?_
  refine k_aload_n 493 494 C dL_law_493 rfl 3 rfl ?_
  refine k_iload_n 494 495 C dL_law_494 rfl 0 rfl ?_
  refine k_iconst 495 496 C dL_law_495 rfl (v := nI 2) rfl ?_
  refine k_iadd 496 497 C dL_law_496 rfl ?_
  refine k_rwI (y := nI (i + 2)) (nI_add i 2) ?_
  refine k_sdX 497 498 C hX hb (show i + 2 < L0 by omega) hL dL_law_497 rfl ?_
  refine k_aload_n 498 499 C dL_law_498 rfl 3 rfl ?_
  refine k_iload_n 499 500 C dL_law_499 rfl 0 rfl ?_
  refine k_iconst 500 501 C dL_law_500 rfl (v := nI 3) rfl ?_
  refine k_iadd 501 502 C dL_law_501 rfl ?_
  refine k_rwI (y := nI (i + 3)) (nI_add i 3) ?_
  refine k_sdX 502 503 C hX hb (show i + 3 < L0 by omega) hL dL_law_502 rfl ?_
  refine k_callVL 503 506 C [_, _, _] [_] dL_law_503 rfl (ct_X4_pointInfo (np := npS S) hM g3 g6.w) mi_X4_pointInfo ml_L_69 im_X4_pointInfo se_X4_pointInfo ci_X4 (hM.o) rfl rfl ⟨Nat.le_of_ble_eq_true rfl, Nat.le_of_ble_eq_true rfl⟩ (Nat.le_of_ble_eq_true rfl) hk hn (fun r2 V2 p2 => ?_)
  have z := st_pu g (rel_pinfo g6) ⟨rfl, e1⟩ p2
  refine k_lcmp_eq 506 507 707 510 C dL_law_506 rfl dL_law_507 (by decide) rfl (fun _ => kk V2 z.2) (fun hh => absurd z.1 hh)
set_option maxHeartbeats 2000000 in
theorem law_atOnce {E : gE} {T : gT} {V : gV} {p : Program} {l : Launch} {e : Env} {s : State} {m : MethodId} {args : Array Value} {below : List Frame} {meth : Method} {c : Code} {ret : Option FieldType} {k n : Nat} {Q : State → Prop} (C : Cx E p s m args meth c RL code 4 ret) {b L0 a i : Nat} {xs : Nat → Int32} (hX : va_X b L0 xs s s.heap) (hb : b < gB E) (hL : L0 ≤ 2560) (hi : i + 5 ≤ L0) (hA : IsAll T a) (hM : IsMdl T (a + 142)) (hk : k ≤ room_1.cells) (hn : n ≤ room_1.slots) (g : GS V a) (kk : ∀ V2 : gV, GS V2 a → KW E T V2 p l e room_1 s m args below meth c 4 k n Q 707 (LL b a i) []) : KW E T V p l e room_1 s m args below meth c 4 k n Q 512 (LL b a i) [] := by
  obtain ⟨S, h, H, f, F, cs, zn, g⟩ := g
  obtain ⟨g1, g2, g3, g4, g5, g6, g7⟩ := id g
  obtain ⟨r0, ρ, gp⟩ := g1
  refine k_aload_n 512 513 C dL_law_512 rfl 2 rfl ?_
  refine k_aload_n 513 514 C dL_law_513 rfl 3 rfl ?_
  refine k_iload_n 514 515 C dL_law_514 rfl 0 rfl ?_
  refine k_iconst 515 516 C dL_law_515 rfl (v := nI 1) rfl ?_
  refine k_iadd 516 517 C dL_law_516 rfl ?_
  refine k_rwI (y := nI (i + 1)) (nI_add i 1) ?_
  refine k_sdX 517 518 C hX hb (show i + 1 < L0 by omega) hL dL_law_517 rfl ?_
  refine k_aload_n 518 519 C dL_law_518 rfl 3 rfl ?_
  refine k_iload_n 519 520 C dL_law_519 rfl 0 rfl ?_
  refine k_iconst 520 521 C dL_law_520 rfl (v := nI 2) rfl ?_
  refine k_iadd 521 522 C dL_law_521 rfl ?_
  refine k_rwI (y := nI (i + 2)) (nI_add i 2) ?_
  refine k_sdX 522 523 C hX hb (show i + 2 < L0 by omega) hL dL_law_522 rfl ?_
  refine k_aload_n 523 524 C dL_law_523 rfl 3 rfl ?_
  refine k_iload_n 524 525 C dL_law_524 rfl 0 rfl ?_
  refine k_iconst 525 526 C dL_law_525 rfl (v := nI 3) rfl ?_
  refine k_iadd 526 527 C dL_law_526 rfl ?_
  refine k_rwI (y := nI (i + 3)) (nI_add i 3) ?_
  refine k_sdX 527 528 C hX hb (show i + 3 < L0 by omega) hL dL_law_527 rfl ?_
  refine k_callVL 528 531 C [_, _, _] [] dL_law_528 rfl (ct_X3_atOnce hA gp) mi_X3_atOnce ml_L_70 im_X3_atOnce se_X3_atOnce ci_X3 (hA.a.o) rfl rfl ⟨Nat.le_of_ble_eq_true rfl, Nat.le_of_ble_eq_true rfl⟩ (Nat.le_of_ble_eq_true rfl) hk hn (fun r1 V1 p1 => ?_)
  obtain ⟨rfl, e1⟩ := p1
  refine k_aload_n 531 532 C dL_law_531 rfl 1 rfl ?_
  refine k_aload_n 532 533 C dL_law_532 rfl 3 rfl ?_
  refine k_iload_n 533 534 C dL_law_533 rfl 0 rfl ?_
  refine k_iconst 534 535 C dL_law_534 rfl (v := nI 1) rfl ?_
  refine k_iadd 535 536 C dL_law_535 rfl ?_
  refine k_rwI (y := nI (i + 1)) (nI_add i 1) ?_
  refine k_sdX 536 537 C hX hb (show i + 1 < L0 by omega) hL dL_law_536 rfl ?_
  refine k_aload_n 537 538 C dL_law_537 rfl 3 rfl ?_
  refine k_iload_n 538 539 C dL_law_538 rfl 0 rfl ?_
  refine k_iconst 539 540 C dL_law_539 rfl (v := nI 2) rfl ?_
  refine k_iadd 540 541 C dL_law_540 rfl ?_
  refine k_rwI (y := nI (i + 2)) (nI_add i 2) ?_
  refine k_sdX 541 542 C hX hb (show i + 2 < L0 by omega) hL dL_law_541 rfl ?_
  refine k_aload_n 542 543 C dL_law_542 rfl 3 rfl ?_
  refine k_iload_n 543 544 C dL_law_543 rfl 0 rfl ?_
  refine k_iconst 544 545 C dL_law_544 rfl (v := nI 3) rfl ?_
  refine k_iadd 545 546 C dL_law_545 rfl ?_
  refine k_rwI (y := nI (i + 3)) (nI_add i 3) ?_
  refine k_sdX 546 547 C hX hb (show i + 3 < L0 by omega) hL dL_law_546 rfl ?_
  refine k_callVL 547 550 C [_, _, _] [_] dL_law_547 rfl (ct_X4_atOnce (np := npS S) hM g3 g6.w g6.par (rel_aoOK g6)) mi_X4_atOnce ml_L_73 im_X4_atOnce se_X4_atOnce ci_X4 (hM.o) rfl rfl ⟨Nat.le_of_ble_eq_true rfl, Nat.le_of_ble_eq_true rfl⟩ (Nat.le_of_ble_eq_true rfl) hk hn (fun r2 V2 p2 => ?_)
  have z := st_pg g (rel_atOnce g6) ⟨rfl, e1⟩ p2
  refine k_lcmp_eq 550 551 707 554 C dL_law_550 rfl dL_law_551 (by decide) rfl (fun _ => kk V2 z.2) (fun hh => absurd z.1 hh)
set_option maxHeartbeats 2000000 in
theorem law_alike {E : gE} {T : gT} {V : gV} {p : Program} {l : Launch} {e : Env} {s : State} {m : MethodId} {args : Array Value} {below : List Frame} {meth : Method} {c : Code} {ret : Option FieldType} {k n : Nat} {Q : State → Prop} (C : Cx E p s m args meth c RL code 4 ret) {b L0 a i : Nat} {xs : Nat → Int32} (hX : va_X b L0 xs s s.heap) (hb : b < gB E) (hL : L0 ≤ 2560) (hi : i + 5 ≤ L0) (hA : IsAll T a) (hM : IsMdl T (a + 142)) (hk : k ≤ room_1.cells) (hn : n ≤ room_1.slots) (g : GS V a) (kk : ∀ V2 : gV, GS V2 a → KW E T V2 p l e room_1 s m args below meth c 4 k n Q 707 (LL b a i) []) : KW E T V p l e room_1 s m args below meth c 4 k n Q 556 (LL b a i) [] := by
  obtain ⟨S, h, H, f, F, cs, zn, g⟩ := g
  obtain ⟨g1, g2, g3, g4, g5, g6, g7⟩ := id g
  obtain ⟨r0, ρ, gp⟩ := g1
  refine k_aload_n 556 557 C dL_law_556 rfl 2 rfl ?_
  refine k_aload_n 557 558 C dL_law_557 rfl 3 rfl ?_
  refine k_iload_n 558 559 C dL_law_558 rfl 0 rfl ?_
  refine k_iconst 559 560 C dL_law_559 rfl (v := nI 1) rfl ?_
  refine k_iadd 560 561 C dL_law_560 rfl ?_
  refine k_rwI (y := nI (i + 1)) (nI_add i 1) ?_
  refine k_sdX 561 562 C hX hb (show i + 1 < L0 by omega) hL dL_law_561 rfl ?_
  refine k_aload_n 562 563 C dL_law_562 rfl 3 rfl ?_
  refine k_iload_n 563 564 C dL_law_563 rfl 0 rfl ?_
  refine k_iconst 564 565 C dL_law_564 rfl (v := nI 2) rfl ?_
  refine k_iadd 565 566 C dL_law_565 rfl ?_
  refine k_rwI (y := nI (i + 2)) (nI_add i 2) ?_
  refine k_sdX 566 567 C hX hb (show i + 2 < L0 by omega) hL dL_law_566 rfl ?_
  refine k_callVI 567 570 C [_, _] [] dL_law_567 rfl (ct_X3_alike hA gp) mi_X3_alike ml_L_74 im_X3_alike se_X3_alike ci_X3 (hA.a.o) rfl rfl ⟨Nat.le_of_ble_eq_true rfl, Nat.le_of_ble_eq_true rfl⟩ (Nat.le_of_ble_eq_true rfl) hk hn (fun r1 V1 p1 => ?_)
  obtain ⟨rfl, e1⟩ := p1
  refine k_aload_n 570 571 C dL_law_570 rfl 1 rfl ?_
  refine k_aload_n 571 572 C dL_law_571 rfl 3 rfl ?_
  refine k_iload_n 572 573 C dL_law_572 rfl 0 rfl ?_
  refine k_iconst 573 574 C dL_law_573 rfl (v := nI 1) rfl ?_
  refine k_iadd 574 575 C dL_law_574 rfl ?_
  refine k_rwI (y := nI (i + 1)) (nI_add i 1) ?_
  refine k_sdX 575 576 C hX hb (show i + 1 < L0 by omega) hL dL_law_575 rfl ?_
  refine k_aload_n 576 577 C dL_law_576 rfl 3 rfl ?_
  refine k_iload_n 577 578 C dL_law_577 rfl 0 rfl ?_
  refine k_iconst 578 579 C dL_law_578 rfl (v := nI 2) rfl ?_
  refine k_iadd 579 580 C dL_law_579 rfl ?_
  refine k_rwI (y := nI (i + 2)) (nI_add i 2) ?_
  refine k_sdX 580 581 C hX hb (show i + 2 < L0 by omega) hL dL_law_580 rfl ?_
  refine k_callVI 581 584 C [_, _] [_] dL_law_581 rfl (ct_X4_alike (np := npS S) hM g3 g6.w) mi_X4_alike ml_L_77 im_X4_alike se_X4_alike ci_X4 (hM.o) rfl rfl ⟨Nat.le_of_ble_eq_true rfl, Nat.le_of_ble_eq_true rfl⟩ (Nat.le_of_ble_eq_true rfl) hk hn (fun r2 V2 p2 => ?_)
  have z := st_pu g (rel_alike g6) ⟨rfl, e1⟩ p2
  refine k_icmp_eq 584 707 587 C dL_law_584 (by decide) rfl (fun _ => kk V2 z.2) (fun hh => absurd z.1 hh)
set_option maxHeartbeats 2000000 in
theorem law_armFor {E : gE} {T : gT} {V : gV} {p : Program} {l : Launch} {e : Env} {s : State} {m : MethodId} {args : Array Value} {below : List Frame} {meth : Method} {c : Code} {ret : Option FieldType} {k n : Nat} {Q : State → Prop} (C : Cx E p s m args meth c RL code 4 ret) {b L0 a i : Nat} {xs : Nat → Int32} (hX : va_X b L0 xs s s.heap) (hb : b < gB E) (hL : L0 ≤ 2560) (hi : i + 5 ≤ L0) (hA : IsAll T a) (hM : IsMdl T (a + 142)) (hk : k ≤ room_1.cells) (hn : n ≤ room_1.slots) (g : GS V a) (kk : ∀ V2 : gV, GS V2 a → KW E T V2 p l e room_1 s m args below meth c 4 k n Q 707 (LL b a i) []) : KW E T V p l e room_1 s m args below meth c 4 k n Q 589 (LL b a i) [] := by
  obtain ⟨S, h, H, f, F, cs, zn, g⟩ := g
  obtain ⟨g1, g2, g3, g4, g5, g6, g7⟩ := id g
  obtain ⟨r0, ρ, gp⟩ := g1
  refine k_aload_n 589 590 C dL_law_589 rfl 2 rfl ?_
  refine k_aload_n 590 591 C dL_law_590 rfl 3 rfl ?_
  refine k_iload_n 591 592 C dL_law_591 rfl 0 rfl ?_
  refine k_iconst 592 593 C dL_law_592 rfl (v := nI 1) rfl ?_
  refine k_iadd 593 594 C dL_law_593 rfl ?_
  refine k_rwI (y := nI (i + 1)) (nI_add i 1) ?_
  refine k_sdX 594 595 C hX hb (show i + 1 < L0 by omega) hL dL_law_594 rfl ?_
  refine k_aload_n 595 596 C dL_law_595 rfl 3 rfl ?_
  refine k_iload_n 596 597 C dL_law_596 rfl 0 rfl ?_
  refine k_iconst 597 598 C dL_law_597 rfl (v := nI 2) rfl ?_
  refine k_iadd 598 599 C dL_law_598 rfl ?_
  refine k_rwI (y := nI (i + 2)) (nI_add i 2) ?_
  refine k_sdX 599 600 C hX hb (show i + 2 < L0 by omega) hL dL_law_599 rfl ?_
  refine k_callVI 600 603 C [_, _] [] dL_law_600 rfl (ct_X3_armFor hA gp) mi_X3_armFor ml_L_78 im_X3_armFor se_X3_armFor ci_X3 (hA.a.o) rfl rfl ⟨Nat.le_of_ble_eq_true rfl, Nat.le_of_ble_eq_true rfl⟩ (Nat.le_of_ble_eq_true rfl) hk hn (fun r1 V1 p1 => ?_)
  obtain ⟨rfl, e1⟩ := p1
  refine k_aload_n 603 604 C dL_law_603 rfl 1 rfl ?_
  refine k_aload_n 604 605 C dL_law_604 rfl 3 rfl ?_
  refine k_iload_n 605 606 C dL_law_605 rfl 0 rfl ?_
  refine k_iconst 606 607 C dL_law_606 rfl (v := nI 1) rfl ?_
  refine k_iadd 607 608 C dL_law_607 rfl ?_
  refine k_rwI (y := nI (i + 1)) (nI_add i 1) ?_
  refine k_sdX 608 609 C hX hb (show i + 1 < L0 by omega) hL dL_law_608 rfl ?_
  refine k_aload_n 609 610 C dL_law_609 rfl 3 rfl ?_
  refine k_iload_n 610 611 C dL_law_610 rfl 0 rfl ?_
  refine k_iconst 611 612 C dL_law_611 rfl (v := nI 2) rfl ?_
  refine k_iadd 612 613 C dL_law_612 rfl ?_
  refine k_rwI (y := nI (i + 2)) (nI_add i 2) ?_
  refine k_sdX 613 614 C hX hb (show i + 2 < L0 by omega) hL dL_law_613 rfl ?_
  refine k_callVI 614 617 C [_, _] [_] dL_law_614 rfl (ct_X4_armFor (np := npS S) hM g3 g6.w) mi_X4_armFor ml_L_81 im_X4_armFor se_X4_armFor ci_X4 (hM.o) rfl rfl ⟨Nat.le_of_ble_eq_true rfl, Nat.le_of_ble_eq_true rfl⟩ (Nat.le_of_ble_eq_true rfl) hk hn (fun r2 V2 p2 => ?_)
  have z := st_pg g (rel_armFor g6) ⟨rfl, e1⟩ p2
  refine k_icmp_eq 617 707 620 C dL_law_617 (by decide) rfl (fun _ => kk V2 z.2) (fun hh => absurd z.1 hh)
set_option maxHeartbeats 2000000 in
theorem law_undo {E : gE} {T : gT} {V : gV} {p : Program} {l : Launch} {e : Env} {s : State} {m : MethodId} {args : Array Value} {below : List Frame} {meth : Method} {c : Code} {ret : Option FieldType} {k n : Nat} {Q : State → Prop} (C : Cx E p s m args meth c RL code 4 ret) {b L0 a i : Nat} {xs : Nat → Int32} (hX : va_X b L0 xs s s.heap) (hb : b < gB E) (hL : L0 ≤ 2560) (hi : i + 5 ≤ L0) (hA : IsAll T a) (hM : IsMdl T (a + 142)) (hk : k ≤ room_1.cells) (hn : n ≤ room_1.slots) (g : GS V a) (kk : ∀ V2 : gV, GS V2 a → KW E T V2 p l e room_1 s m args below meth c 4 k n Q 707 (LL b a i) []) : KW E T V p l e room_1 s m args below meth c 4 k n Q 622 (LL b a i) [] := by
  obtain ⟨S, h, H, f, F, cs, zn, g⟩ := g
  obtain ⟨g1, g2, g3, g4, g5, g6, g7⟩ := id g
  obtain ⟨r0, ρ, gp⟩ := g1
  refine k_aload_n 622 623 C dL_law_622 rfl 2 rfl ?_
  refine k_callVI 623 626 C [] [] dL_law_623 rfl (ct_X3_undo hA gp) mi_X3_undo ml_L_82 im_X3_undo se_X3_undo ci_X3 (hA.a.o) rfl rfl ⟨Nat.le_of_ble_eq_true rfl, Nat.le_of_ble_eq_true rfl⟩ (Nat.le_of_ble_eq_true rfl) hk hn (fun r1 V1 p1 => ?_)
  have q3 : PQ V1 (a + 142) f := by rcases p1 with ⟨_, _, rfl⟩ | ⟨_, _, _, _, o1⟩; exact g3; exact off_PQ g3 o1
  have q4 : HQ V1 (a + 142) h F := by rcases p1 with ⟨_, _, rfl⟩ | ⟨_, _, _, _, o1⟩; exact g4; exact off_HQ g4 o1
  refine k_aload_n 626 627 C dL_law_626 rfl 1 rfl ?_
  refine k_callVI 627 630 C [] [_] dL_law_627 rfl (ct_X4_undo hM q3 q4) mi_X4_undo ml_L_85 im_X4_undo se_X4_undo ci_X4 (hM.o) rfl rfl ⟨Nat.le_of_ble_eq_true rfl, Nat.le_of_ble_eq_true rfl⟩ (Nat.le_of_ble_eq_true rfl) hk hn (fun r2 V2 p2 => ?_)
  have z := st_undo g  p1 p2
  refine k_icmp_eq 630 707 633 C dL_law_630 (by decide) rfl (fun _ => kk V2 z.2) (fun hh => absurd z.1 hh)
set_option maxHeartbeats 2000000 in
theorem law_type {E : gE} {T : gT} {V : gV} {p : Program} {l : Launch} {e : Env} {s : State} {m : MethodId} {args : Array Value} {below : List Frame} {meth : Method} {c : Code} {ret : Option FieldType} {k n : Nat} {Q : State → Prop} (C : Cx E p s m args meth c RL code 4 ret) {b L0 a i : Nat} {xs : Nat → Int32} (hX : va_X b L0 xs s s.heap) (hb : b < gB E) (hL : L0 ≤ 2560) (hi : i + 5 ≤ L0) (hA : IsAll T a) (hM : IsMdl T (a + 142)) (hk : k ≤ room_1.cells) (hn : n ≤ room_1.slots) (g : GS V a) (kk : ∀ V2 : gV, GS V2 a → KW E T V2 p l e room_1 s m args below meth c 4 k n Q 707 (LL b a i) []) : KW E T V p l e room_1 s m args below meth c 4 k n Q 635 (LL b a i) [] := by
  obtain ⟨S, h, H, f, F, cs, zn, g⟩ := g
  obtain ⟨g1, g2, g3, g4, g5, g6, g7⟩ := id g
  obtain ⟨r0, ρ, gp⟩ := g1
  refine k_aload_n 635 636 C dL_law_635 rfl 2 rfl ?_
  refine k_aload_n 636 637 C dL_law_636 rfl 3 rfl ?_
  refine k_iload_n 637 638 C dL_law_637 rfl 0 rfl ?_
  refine k_iconst 638 639 C dL_law_638 rfl (v := nI 1) rfl ?_
  refine k_iadd 639 640 C dL_law_639 rfl ?_
  refine k_rwI (y := nI (i + 1)) (nI_add i 1) ?_
  refine k_sdX 640 641 C hX hb (show i + 1 < L0 by omega) hL dL_law_640 rfl ?_
  refine k_callVI 641 644 C [_] [] dL_law_641 rfl (ct_X3_type hA gp g2) mi_X3_type ml_L_86 im_X3_type se_X3_type ci_X3 (hA.a.o) rfl rfl ⟨Nat.le_of_ble_eq_true rfl, Nat.le_of_ble_eq_true rfl⟩ (Nat.le_of_ble_eq_true rfl) hk hn (fun r1 V1 p1 => ?_)
  have o1 := p1.2.2.2
  refine k_aload_n 644 645 C dL_law_644 rfl 1 rfl ?_
  refine k_aload_n 645 646 C dL_law_645 rfl 3 rfl ?_
  refine k_iload_n 646 647 C dL_law_646 rfl 0 rfl ?_
  refine k_iconst 647 648 C dL_law_647 rfl (v := nI 1) rfl ?_
  refine k_iadd 648 649 C dL_law_648 rfl ?_
  refine k_rwI (y := nI (i + 1)) (nI_add i 1) ?_
  refine k_sdX 649 650 C hX hb (show i + 1 < L0 by omega) hL dL_law_649 rfl ?_
  refine k_callVI 650 653 C [_] [_] dL_law_650 rfl (ct_X4_type hM (off_TQ g5 o1)) mi_X4_type ml_L_89 im_X4_type se_X4_type ci_X4 (hM.o) rfl rfl ⟨Nat.le_of_ble_eq_true rfl, Nat.le_of_ble_eq_true rfl⟩ (Nat.le_of_ble_eq_true rfl) hk hn (fun r2 V2 p2 => ?_)
  have z := st_type g  p1 p2
  refine k_icmp_eq 653 707 656 C dL_law_653 (by decide) rfl (fun _ => kk V2 z.2) (fun hh => absurd z.1 hh)
set_option maxHeartbeats 2000000 in
theorem law_clearText {E : gE} {T : gT} {V : gV} {p : Program} {l : Launch} {e : Env} {s : State} {m : MethodId} {args : Array Value} {below : List Frame} {meth : Method} {c : Code} {ret : Option FieldType} {k n : Nat} {Q : State → Prop} (C : Cx E p s m args meth c RL code 4 ret) {b L0 a i : Nat} {xs : Nat → Int32} (hX : va_X b L0 xs s s.heap) (hb : b < gB E) (hL : L0 ≤ 2560) (hi : i + 5 ≤ L0) (hA : IsAll T a) (hM : IsMdl T (a + 142)) (hk : k ≤ room_1.cells) (hn : n ≤ room_1.slots) (g : GS V a) (kk : ∀ V2 : gV, GS V2 a → KW E T V2 p l e room_1 s m args below meth c 4 k n Q 707 (LL b a i) []) : KW E T V p l e room_1 s m args below meth c 4 k n Q 658 (LL b a i) [] := by
  obtain ⟨S, h, H, f, F, cs, zn, g⟩ := g
  obtain ⟨g1, g2, g3, g4, g5, g6, g7⟩ := id g
  obtain ⟨r0, ρ, gp⟩ := g1
  refine k_aload_n 658 659 C dL_law_658 rfl 2 rfl ?_
  refine k_callVI 659 662 C [] [] dL_law_659 rfl (ct_X3_clearText hA gp g2) mi_X3_clearText ml_L_90 im_X3_clearText se_X3_clearText ci_X3 (hA.a.o) rfl rfl ⟨Nat.le_of_ble_eq_true rfl, Nat.le_of_ble_eq_true rfl⟩ (Nat.le_of_ble_eq_true rfl) hk hn (fun r1 V1 p1 => ?_)
  have o1 := p1.2.2.2
  refine k_aload_n 662 663 C dL_law_662 rfl 1 rfl ?_
  refine k_callVI 663 666 C [] [_] dL_law_663 rfl (ct_X4_clearText hM (off_TQ g5 o1)) mi_X4_clearText ml_L_93 im_X4_clearText se_X4_clearText ci_X4 (hM.o) rfl rfl ⟨Nat.le_of_ble_eq_true rfl, Nat.le_of_ble_eq_true rfl⟩ (Nat.le_of_ble_eq_true rfl) hk hn (fun r2 V2 p2 => ?_)
  have z := st_clear g  p1 p2
  refine k_icmp_eq 666 707 669 C dL_law_666 (by decide) rfl (fun _ => kk V2 z.2) (fun hh => absurd z.1 hh)
set_option maxHeartbeats 2000000 in
theorem law_fault {E : gE} {T : gT} {V : gV} {p : Program} {l : Launch} {e : Env} {s : State} {m : MethodId} {args : Array Value} {below : List Frame} {meth : Method} {c : Code} {ret : Option FieldType} {k n : Nat} {Q : State → Prop} (C : Cx E p s m args meth c RL code 4 ret) {b L0 a i : Nat} {xs : Nat → Int32} (hX : va_X b L0 xs s s.heap) (hb : b < gB E) (hL : L0 ≤ 2560) (hi : i + 5 ≤ L0) (hA : IsAll T a) (hM : IsMdl T (a + 142)) (hk : k ≤ room_1.cells) (hn : n ≤ room_1.slots) (g : GS V a) (kk : ∀ V2 : gV, GS V2 a → KW E T V2 p l e room_1 s m args below meth c 4 k n Q 707 (LL b a i) []) : KW E T V p l e room_1 s m args below meth c 4 k n Q 671 (LL b a i) [] := by
  obtain ⟨S, h, H, f, F, cs, zn, g⟩ := g
  obtain ⟨g1, g2, g3, g4, g5, g6, g7⟩ := id g
  obtain ⟨r0, ρ, gp⟩ := g1
  refine k_aload_n 671 672 C dL_law_671 rfl 2 rfl ?_
  refine k_aload_n 672 673 C dL_law_672 rfl 3 rfl ?_
  refine k_iload_n 673 674 C dL_law_673 rfl 0 rfl ?_
  refine k_iconst 674 675 C dL_law_674 rfl (v := nI 1) rfl ?_
  refine k_iadd 675 676 C dL_law_675 rfl ?_
  refine k_rwI (y := nI (i + 1)) (nI_add i 1) ?_
  refine k_sdX 676 677 C hX hb (show i + 1 < L0 by omega) hL dL_law_676 rfl ?_
  refine k_callVI 677 680 C [_] [] dL_law_677 rfl (ct_X3_fault hA gp g2 rfl) mi_X3_fault ml_L_94 im_X3_fault se_X3_fault ci_X3 (hA.a.o) rfl rfl ⟨Nat.le_of_ble_eq_true rfl, Nat.le_of_ble_eq_true rfl⟩ (Nat.le_of_ble_eq_true rfl) hk hn (fun r1 V1 p1 => ?_)
  have o1 := p1.2.2.2
  refine k_aload_n 680 681 C dL_law_680 rfl 1 rfl ?_
  refine k_aload_n 681 682 C dL_law_681 rfl 3 rfl ?_
  refine k_iload_n 682 683 C dL_law_682 rfl 0 rfl ?_
  refine k_iconst 683 684 C dL_law_683 rfl (v := nI 1) rfl ?_
  refine k_iadd 684 685 C dL_law_684 rfl ?_
  refine k_rwI (y := nI (i + 1)) (nI_add i 1) ?_
  refine k_sdX 685 686 C hX hb (show i + 1 < L0 by omega) hL dL_law_685 rfl ?_
  refine k_callVI 686 689 C [_] [_] dL_law_686 rfl (ct_X4_fault hM (off_TQ g5 o1).r0) mi_X4_fault ml_L_97 im_X4_fault se_X4_fault ci_X4 (hM.o) rfl rfl ⟨Nat.le_of_ble_eq_true rfl, Nat.le_of_ble_eq_true rfl⟩ (Nat.le_of_ble_eq_true rfl) hk hn (fun r2 V2 p2 => ?_)
  have z := st_fault g (rel_fault) p1 p2
  refine k_icmp_eq 689 707 692 C dL_law_689 (by decide) rfl (fun _ => kk V2 z.2) (fun hh => absurd z.1 hh)
set_option maxHeartbeats 2000000 in
theorem law_read {E : gE} {T : gT} {V : gV} {p : Program} {l : Launch} {e : Env} {s : State} {m : MethodId} {args : Array Value} {below : List Frame} {meth : Method} {c : Code} {ret : Option FieldType} {k n : Nat} {Q : State → Prop} (C : Cx E p s m args meth c RL code 4 ret) {b L0 a i : Nat} {xs : Nat → Int32} (hX : va_X b L0 xs s s.heap) (hb : b < gB E) (hL : L0 ≤ 2560) (hi : i + 5 ≤ L0) (hA : IsAll T a) (hM : IsMdl T (a + 142)) (hk : k ≤ room_1.cells) (hn : n ≤ room_1.slots) (g : GS V a) (kk : ∀ V2 : gV, GS V2 a → KW E T V2 p l e room_1 s m args below meth c 4 k n Q 707 (LL b a i) []) : KW E T V p l e room_1 s m args below meth c 4 k n Q 694 (LL b a i) [] := by
  obtain ⟨S, h, H, f, F, cs, zn, g⟩ := g
  obtain ⟨g1, g2, g3, g4, g5, g6, g7⟩ := id g
  obtain ⟨r0, ρ, gp⟩ := g1
  refine k_aload_n 694 695 C dL_law_694 rfl 2 rfl ?_
  refine k_callVI 695 698 C [] [] dL_law_695 rfl (ct_X3_read hA gp g2 rfl) mi_X3_read ml_L_98 im_X3_read se_X3_read ci_X3 (hA.a.o) rfl rfl ⟨Nat.le_of_ble_eq_true rfl, Nat.le_of_ble_eq_true rfl⟩ (Nat.le_of_ble_eq_true rfl) hk hn (fun r1 V1 p1 => ?_)
  have o1 := p1.2.2.2
  refine k_aload_n 698 699 C dL_law_698 rfl 1 rfl ?_
  refine k_callVI 699 702 C [] [_] dL_law_699 rfl (ct_X4_read hM (off_TQ g5 o1).r0 (off_PQ g3 o1) (off_HQ g4 o1) g6.w.1 g6.n6 rel_RdOK) mi_X4_read ml_L_101 im_X4_read se_X4_read ci_X4 (hM.o) rfl rfl ⟨Nat.le_of_ble_eq_true rfl, Nat.le_of_ble_eq_true rfl⟩ (Nat.le_of_ble_eq_true rfl) hk hn (fun r2 V2 p2 => ?_)
  have z := st_read g (rel_read g6) p1 p2
  refine k_icmp_eq 702 707 705 C dL_law_702 (by decide) rfl (fun _ => kk V2 z.2) (fun hh => absurd z.1 hh)
