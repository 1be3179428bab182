/-! floats of the shape c times a power of 2, with 24 digits -/
def mkF (c : Nat) (q : Int) : UInt32 := UInt32.ofNat (FP.Core.encode FP.Core.b32 (.fin false c q))
theorem fq_t : FP.Core.b32.tails = 8388608 := by decide
theorem fq_e : FP.Core.b32.exps = 256 := by decide
theorem fq_m : FP.Core.b32.qmin = -149 := by decide
theorem fq_M : FP.Core.b32.qmax = 104 := by decide
theorem fq_p : 2 ^ FP.Core.b32.p = 16777216 := by decide
abbrev NrM (c : Nat) : Prop := 8388608 ≤ c ∧ c < 16777216
theorem fq_enc {c : Nat} {q : Int} (hc : NrM c) : FP.Core.encode FP.Core.b32 (.fin false c q) = ((q + 149).toNat + 1) * 8388608 + (c - 8388608) := by
  show (if c < FP.Core.b32.tails then FP.Core.assemble FP.Core.b32 false 0 c else FP.Core.assemble FP.Core.b32 false ((q - FP.Core.b32.qmin).toNat + 1) (c - FP.Core.b32.tails)) = _
  rw [fq_t, if_neg (by omega)]
  unfold FP.Core.assemble
  rw [fq_e, fq_t, fq_m, show q - -149 = q + 149 by omega]
  show (0 * 256 + _) * _ + _ = _
  rw [Nat.zero_mul, Nat.zero_add]
theorem fq_nat {c : Nat} {q : Int} (hc : NrM c) (h2 : q ≤ 104) : (mkF c q).toNat = ((q + 149).toNat + 1) * 8388608 + (c - 8388608) := by
  unfold mkF
  rw [fq_enc hc]
  exact UInt32.toNat_ofNat_of_lt' (show _ < 4294967296 by omega)
theorem fq_dec {c : Nat} {q : Int} (hc : NrM c) (h1 : -149 ≤ q) (h2 : q ≤ 104) : FP.Core.decode FP.Core.b32 (mkF c q).toNat = .fin false c q := by
  rw [fq_nat hc h2]
  generalize hE : (q + 149).toNat = E
  have t : FP.Core.fieldT FP.Core.b32 ((E + 1) * 8388608 + (c - 8388608)) = c - 8388608 := by
    unfold FP.Core.fieldT; rw [fq_t]; omega
  have e : FP.Core.fieldE FP.Core.b32 ((E + 1) * 8388608 + (c - 8388608)) = E + 1 := by
    unfold FP.Core.fieldE; rw [fq_t, fq_e]; omega
  have s : FP.Core.fieldS FP.Core.b32 ((E + 1) * 8388608 + (c - 8388608)) = false := by
    unfold FP.Core.fieldS; rw [fq_t, fq_e, show ((E + 1) * 8388608 + (c - 8388608)) / 8388608 / 256 % 2 = 0 by omega]; rfl
  unfold FP.Core.decode
  rw [e, if_neg (by rw [fq_e]; omega), if_neg (by omega), s, t, fq_t, fq_m]
  rw [show 8388608 + (c - 8388608) = c by omega, show (-149 : Int) + (((E + 1 : Nat) : Int) - 1) = q by omega]
theorem fq_log {n k : Nat} (h1 : 2 ^ k ≤ n) (h2 : n < 2 ^ (k + 1)) : n.log2 = k := (Nat.log2_eq_iff (by have := Nat.two_pow_pos k; omega)).mpr ⟨h1, h2⟩
theorem fq_l0 : Nat.log2 1 = 0 := fq_log (k := 0) (by decide) (by decide)
theorem fq_lead {A B : Nat} {a b : Nat} (hA : A.log2 = a) (hB : B.log2 = b) : FP.Core.leading A B = if B * 2 ^ ((a : Int) - (b : Int)).toNat ≤ A * 2 ^ (-((a : Int) - (b : Int))).toNat then (a : Int) - (b : Int) else (a : Int) - (b : Int) - 1 := by
  unfold FP.Core.leading; rw [hA, hB]
theorem fq_near (M : Nat) {B : Nat} (hB : 0 < B) : FP.Core.nearest (M * B) B = M := by
  unfold FP.Core.nearest
  rw [Nat.mul_mod_left, if_pos (by omega), Nat.mul_div_cancel _ hB]
theorem fq_set {c : Nat} {q : Int} {s : Bool} (hc : c < 16777216) (hq : q ≤ 104) : FP.Core.settle FP.Core.b32 s c q = .fin s c q := by
  unfold FP.Core.settle FP.Core.bound
  rw [fq_p, if_pos hc, if_pos (by rw [fq_M]; exact hq)]
theorem fq_rr {s : Bool} {A B : Nat} {e L Q : Int} (hA : ¬ A = 0) (hL : FP.Core.leading A B = L) (hq : Q = L + e - 23) (hQ : -149 ≤ Q) : FP.Core.roundRatio FP.Core.b32 s A B e = FP.Core.settle FP.Core.b32 s (FP.Core.nearest (A * 2 ^ (e - Q).toNat) (B * 2 ^ (Q - e).toNat)) Q := by
  have hQ2 : FP.Core.quantum FP.Core.b32 A B e = Q := by
    unfold FP.Core.quantum
    rw [hL, fq_m]
    show max (-149) (L + e - (24 - 1)) = Q
    omega
  unfold FP.Core.roundRatio FP.Core.roundAt FP.Core.unitsNum FP.Core.unitsDen
  rw [if_neg hA, hQ2]
theorem fq_23 {c : Nat} (hc : NrM c) : c.log2 = 23 := fq_log (k := 23) (show 8388608 ≤ c from hc.1) (show c < 16777216 from hc.2)
/-- a division by a power of 2 -/
theorem fq_dv {c : Nat} {q r : Int} (hc : NrM c) (h1 : -149 ≤ q - r - 23) (h2 : q - r - 23 ≤ 104) : FP.Core.roundRatio FP.Core.b32 false c 8388608 (q - r) = .fin false c (q - r - 23) := by
  have hl : FP.Core.leading c 8388608 = 0 := by
    rw [fq_lead (fq_23 hc) (fq_23 (c := 8388608) (by omega))]
    exact if_pos (show 8388608 * 2 ^ 0 ≤ c * 2 ^ 0 by omega)
  rw [fq_rr (Q := q - r - 23) (by omega) hl (by omega) h1, show (q - r - (q - r - 23)).toNat = 23 by omega, show (q - r - 23 - (q - r)).toNat = 0 by omega]
  rw [show (8388608 : Nat) * 2 ^ 0 = 8388608 by decide, show (2 : Nat) ^ 23 = 8388608 by decide, fq_near c (by decide), fq_set hc.2 h2]
/-- a product with a power of 2 -/
theorem fq_ml {c : Nat} {q r : Int} (hc : NrM c) (h1 : -149 ≤ q + r + 23) (h2 : q + r + 23 ≤ 104) : FP.Core.roundRatio FP.Core.b32 false (c * 8388608) 1 (q + r) = .fin false c (q + r + 23) := by
  have hl : FP.Core.leading (c * 8388608) 1 = 46 := by
    rw [fq_lead (fq_log (k := 46) (show 70368744177664 ≤ c * 8388608 by omega) (show c * 8388608 < 140737488355328 by omega)) fq_l0]
    exact if_pos (show 1 * 70368744177664 ≤ c * 8388608 * 2 ^ 0 by omega)
  rw [fq_rr (Q := q + r + 23) (by omega) hl (by omega) h1, show (q + r - (q + r + 23)).toNat = 0 by omega, show (q + r + 23 - (q + r)).toNat = 23 by omega]
  rw [show (2 : Nat) ^ 0 = 1 by decide, Nat.mul_one, Nat.one_mul, show (2 : Nat) ^ 23 = 8388608 by decide, fq_near c (by decide), fq_set hc.2 h2]
theorem fq_2 : FP.Core.decode FP.Core.b32 FP.fconst2.toNat = .fin false 8388608 (-22) := by decide +kernel
theorem fq_1 : FP.Core.decode FP.Core.b32 FP.fconst1.toNat = .fin false 8388608 (-23) := by decide +kernel
theorem fq_8 : FP.Core.decode FP.Core.b32 (1258291200 : UInt32).toNat = .fin false 8388608 0 := by decide +kernel
theorem fq_10 : FP.Core.decode FP.Core.b32 (1092616192 : UInt32).toNat = .fin false 10485760 (-20) := by decide +kernel
theorem fq_div2 {c : Nat} {q : Int} (hc : NrM c) (h1 : -148 ≤ q) (h2 : q ≤ 104) : FP.fdiv (mkF c q) FP.fconst2 = mkF c (q - 1) := by
  show UInt32.ofNat (FP.Core.encode FP.Core.b32 (FP.Core.quotient FP.Core.b32 (FP.Core.decode FP.Core.b32 (mkF c q).toNat) (FP.Core.decode FP.Core.b32 FP.fconst2.toNat))) = _
  rw [fq_dec hc (by omega) h2, fq_2]
  show UInt32.ofNat (FP.Core.encode FP.Core.b32 (FP.Core.roundRatio FP.Core.b32 false c 8388608 (q - -22))) = _
  rw [fq_dv hc (by omega) (by omega), show q - -22 - 23 = q - 1 by omega]
  rfl
theorem fq_mul {c : Nat} {q r : Int} {k : UInt32} (hk : FP.Core.decode FP.Core.b32 k.toNat = .fin false 8388608 r) (hc : NrM c) (h1 : -149 ≤ q) (h2 : q ≤ 104) (h3 : -149 ≤ q + r + 23) (h4 : q + r + 23 ≤ 104) : FP.fmul (mkF c q) k = mkF c (q + r + 23) := by
  show UInt32.ofNat (FP.Core.encode FP.Core.b32 (FP.Core.round FP.Core.b32 (FP.Core.exactProduct (FP.Core.decode FP.Core.b32 (mkF c q).toNat) (FP.Core.decode FP.Core.b32 k.toNat)))) = _
  rw [fq_dec hc h1 h2, hk]
  show UInt32.ofNat (FP.Core.encode FP.Core.b32 (FP.Core.roundRatio FP.Core.b32 false (c * 8388608) 1 (q + r))) = _
  rw [fq_ml hc h3 h4]
  rfl
/-- a whole number of 1 to 2^24 - 1 -/
theorem fq_nrm {n t : Nat} {e : Int} (h1 : 2 ^ t ≤ n) (h2 : n < 2 ^ (t + 1)) (ht : t ≤ 23) (h3 : -149 ≤ t + e - 23) (h4 : t + e - 23 ≤ 104) : FP.Core.roundRatio FP.Core.b32 false n 1 e = .fin false (n * 2 ^ (23 - t)) (t + e - 23) ∧ NrM (n * 2 ^ (23 - t)) := by
  have hp : (2 : Nat) ^ t * 2 ^ (23 - t) = 8388608 := by rw [← Nat.pow_add, show t + (23 - t) = 23 by omega]
  have hp2 : (2 : Nat) ^ (t + 1) * 2 ^ (23 - t) = 16777216 := by rw [← Nat.pow_add, show t + 1 + (23 - t) = 24 by omega]
  have p0 := Nat.two_pow_pos (23 - t)
  have hN : NrM (n * 2 ^ (23 - t)) := ⟨by rw [← hp]; exact Nat.mul_le_mul_right _ h1, by rw [← hp2]; exact Nat.mul_lt_mul_of_pos_right h2 p0⟩
  refine ⟨?_, hN⟩
  have hl : FP.Core.leading n 1 = t := by
    rw [fq_lead (fq_log h1 h2) fq_l0]
    have e1 : ((t : Int) - ((0 : Nat) : Int)).toNat = t := by omega
    have e2 : (-((t : Int) - ((0 : Nat) : Int))).toNat = 0 := by omega
    rw [e1, e2, if_pos (by rw [Nat.one_mul]; show _ ≤ n * 1; omega)]
    omega
  rw [fq_rr (Q := t + e - 23) (by have := Nat.two_pow_pos t; omega) hl rfl h3, show (e - (t + e - 23)).toNat = 23 - t by omega, show ((t : Int) + e - 23 - e).toNat = 0 by omega]
  have := fq_near (n * 2 ^ (23 - t)) (B := 1 * 2 ^ 0) (by decide)
  rw [show n * 2 ^ (23 - t) * (1 * 2 ^ 0) = n * 2 ^ (23 - t) by rw [Nat.one_mul, Nat.pow_zero, Nat.mul_one]] at this
  rw [this, fq_set hN.2 h4]
theorem fq_tt {n : Nat} (h0 : 0 < n) (h : n < 16777216) : ∃ t, 2 ^ t ≤ n ∧ n < 2 ^ (t + 1) ∧ t ≤ 23 := by
  refine ⟨n.log2, ((Nat.log2_eq_iff (by omega)).mp rfl).1, ((Nat.log2_eq_iff (by omega)).mp rfl).2, ?_⟩
  have z := ((Nat.log2_eq_iff (n := n) (by omega)).mp rfl).1
  by_cases g : n.log2 ≤ 23
  · exact g
  · exfalso
    have z2 : (2 : Nat) ^ 24 ≤ 2 ^ n.log2 := Nat.pow_le_pow_right (by decide) (by omega)
    have z3 : (2 : Nat) ^ 24 = 16777216 := by decide
    omega
theorem fq_l2f {n t : Nat} (h1 : 2 ^ t ≤ n) (h2 : n < 2 ^ (t + 1)) (ht : t ≤ 23) : FP.l2f (lN n) = mkF (n * 2 ^ (23 - t)) (t - 23) ∧ NrM (n * 2 ^ (23 - t)) := by
  have hz := fq_nrm (e := 0) h1 h2 ht (by omega) (by omega)
  have hn : n < 16777216 := by
    have : (2 : Nat) ^ (t + 1) ≤ 2 ^ 24 := Nat.pow_le_pow_right (by decide) (by omega)
    have z3 : (2 : Nat) ^ 24 = 16777216 := by decide
    omega
  refine ⟨?_, hz.2⟩
  have e1 : (lN n).toInt = (n : Int) := lN_toInt (by omega)
  show UInt32.ofNat (FP.Core.encode FP.Core.b32 (FP.Core.roundRatio FP.Core.b32 (decide ((lN n).toInt < 0)) (lN n).toInt.natAbs 1 0)) = _
  rw [e1, decide_eq_false (by omega), Int.natAbs_natCast, hz.1, show (t : Int) + 0 - 23 = t - 23 by omega]
  rfl
theorem fq_near2 {A B : Nat} (hB : 0 < B) (h1 : 8388608 * B ≤ A) (h2 : A ≤ 16777216 * B) : 8388608 ≤ FP.Core.nearest A B ∧ FP.Core.nearest A B ≤ 16777216 := by
  have d1 : 8388608 ≤ A / B := (Nat.le_div_iff_mul_le hB).mpr h1
  have d2 : A / B ≤ 16777216 := Nat.div_le_of_le_mul (by rw [Nat.mul_comm]; exact h2)
  have hm := Nat.mod_lt A hB
  have hd := Nat.div_add_mod A B
  have d3 : A / B = 16777216 → A % B = 0 := by
    intro z; rw [z, Nat.mul_comm] at hd; omega
  unfold FP.Core.nearest
  split
  · omega
  · split
    · refine ⟨by omega, ?_⟩
      by_cases g : A / B = 16777216
      · have := d3 g; omega
      · omega
    · refine ⟨by omega, ?_⟩
      by_cases g : A / B = 16777216
      · have := d3 g; omega
      · omega
theorem fq_set2 {c : Nat} {q : Int} (h1 : 8388608 ≤ c) (h2 : c ≤ 16777216) (hq : q ≤ 100) : ∃ c2 q2, NrM c2 ∧ q ≤ q2 ∧ q2 ≤ q + 1 ∧ FP.Core.settle FP.Core.b32 false c q = .fin false c2 q2 := by
  by_cases g : c < 16777216
  · exact ⟨c, q, ⟨h1, g⟩, Int.le_refl q, by omega, fq_set g (by omega)⟩
  · refine ⟨8388608, q + 1, by omega, by omega, Int.le_refl _, ?_⟩
    unfold FP.Core.settle FP.Core.bound
    rw [fq_p, if_neg g, if_pos (by rw [fq_M]; omega), fq_t]
theorem fq_quo {A B : Nat} {e : Int} (hA : NrM A) (hB : NrM B) (h1 : -50 ≤ e) (h2 : e ≤ 50) : ∃ c q, NrM c ∧ e - 24 ≤ q ∧ q ≤ e - 22 ∧ FP.Core.roundRatio FP.Core.b32 false A B e = .fin false c q := by
  by_cases g : B ≤ A
  · have hl : FP.Core.leading A B = 0 := by
      rw [fq_lead (fq_23 hA) (fq_23 hB)]; exact if_pos (show B * 2 ^ 0 ≤ A * 2 ^ 0 by omega)
    rw [fq_rr (Q := e - 23) (by omega) hl (by omega) (by omega), show (e - (e - 23)).toNat = 23 by omega, show (e - 23 - e).toNat = 0 by omega]
    have nn := fq_near2 (A := A * 2 ^ 23) (B := B * 2 ^ 0) (show 0 < B * 1 by omega) (show 8388608 * (B * 1) ≤ A * 8388608 by omega) (show A * 8388608 ≤ 16777216 * (B * 1) by omega)
    obtain ⟨c, q, z1, z2, z3, z4⟩ := fq_set2 (q := e - 23) nn.1 nn.2 (by omega)
    exact ⟨c, q, z1, by omega, by omega, z4⟩
  · have hl : FP.Core.leading A B = -1 := by
      rw [fq_lead (fq_23 hA) (fq_23 hB)]; exact if_neg (show ¬ B * 2 ^ 0 ≤ A * 2 ^ 0 by omega)
    rw [fq_rr (Q := e - 24) (by omega) hl (by omega) (by omega), show (e - (e - 24)).toNat = 24 by omega, show (e - 24 - e).toNat = 0 by omega]
    have nn := fq_near2 (A := A * 2 ^ 24) (B := B * 2 ^ 0) (show 0 < B * 1 by omega) (show 8388608 * (B * 1) ≤ A * 16777216 by omega) (show A * 16777216 ≤ 16777216 * (B * 1) by omega)
    obtain ⟨c, q, z1, z2, z3, z4⟩ := fq_set2 (q := e - 24) nn.1 nn.2 (by omega)
    exact ⟨c, q, z1, by omega, by omega, z4⟩
/-- a ratio as a float -/
abbrev NiceF (x : UInt32) : Prop := ∃ c q, NrM c ∧ -60 ≤ q ∧ q ≤ 20 ∧ x = mkF c q
theorem fq_div {a b : Nat} (ha : 1 ≤ a) (ha2 : a ≤ 4000000) (hb : 1 ≤ b) (hb2 : b ≤ 4000000) : NiceF (FP.fdiv (FP.l2f (lN a)) (FP.l2f (lN b))) := by
  obtain ⟨t, t1, t2, t3⟩ := fq_tt ha (show a < 16777216 by omega)
  obtain ⟨u, u1, u2, u3⟩ := fq_tt hb (show b < 16777216 by omega)
  obtain ⟨e1, nA⟩ := fq_l2f t1 t2 t3
  obtain ⟨e2, nB⟩ := fq_l2f u1 u2 u3
  have b16 : ∀ {n t : Nat}, 2 ^ t ≤ n → n ≤ 4000000 → t ≤ 21 := fun {n t} h h2 => by
    by_cases g : t ≤ 21
    · exact g
    · exfalso
      have z2 : (2 : Nat) ^ 22 ≤ 2 ^ t := Nat.pow_le_pow_right (by decide) (by omega)
      have z3 : (2 : Nat) ^ 22 = 4194304 := by decide
      omega
  have t4 := b16 t1 ha2
  have u4 := b16 u1 hb2
  rw [e1, e2]
  show NiceF (UInt32.ofNat (FP.Core.encode FP.Core.b32 (FP.Core.quotient FP.Core.b32 (FP.Core.decode FP.Core.b32 (mkF _ _).toNat) (FP.Core.decode FP.Core.b32 (mkF _ _).toNat))))
  rw [fq_dec nA (by omega) (by omega), fq_dec nB (by omega) (by omega)]
  obtain ⟨c, q, z1, z2, z3, z4⟩ := fq_quo (e := ((t : Int) - 23) - ((u : Int) - 23)) nA nB (by omega) (by omega)
  refine ⟨c, q, z1, by omega, by omega, ?_⟩
  have ez : FP.Core.quotient FP.Core.b32 (.fin false (a * 2 ^ (23 - t)) ((t : Int) - 23)) (.fin false (b * 2 ^ (23 - u)) ((u : Int) - 23)) = .fin false c q := by
    show (if b * 2 ^ (23 - u) = 0 then _ else _) = _
    rw [if_neg (by have := nB.1; omega)]
    exact z4
  rw [ez]
  rfl
theorem fq_n0 {k : Nat} (h : k ≤ 2139095040) : vf_n32 (UInt32.ofNat k) := by
  unfold vf_n32
  rw [UInt32.le_iff_toNat_le, UInt32.toNat_and]
  refine Nat.le_trans Nat.and_le_left ?_
  rw [UInt32.toNat_ofNat_of_lt' (show k < 4294967296 by omega)]
  exact h
theorem fq_nf {c : Nat} {q : Int} (hc : c < 16777216) (hq : q ≤ 104) : FP.Core.encode FP.Core.b32 (.fin false c q) ≤ 2139095040 := by
  by_cases g : 8388608 ≤ c
  · rw [fq_enc ⟨g, hc⟩]; omega
  · show (if c < FP.Core.b32.tails then FP.Core.assemble FP.Core.b32 false 0 c else _) ≤ _
    rw [if_pos (by rw [fq_t]; omega)]
    show (0 * _ + 0) * _ + c ≤ _
    omega
theorem fq_inf : FP.Core.encode FP.Core.b32 (.inf false) ≤ 2139095040 := by decide +kernel
theorem fq_ns {c : Nat} {q : Int} : FP.Core.encode FP.Core.b32 (FP.Core.settle FP.Core.b32 false c q) ≤ 2139095040 := by
  unfold FP.Core.settle FP.Core.bound
  rw [fq_p, fq_M, fq_t]
  split
  · split
    · exact fq_nf (by assumption) (by assumption)
    · exact fq_inf
  · split
    · exact fq_nf (by decide) (by assumption)
    · exact fq_inf
theorem fq_n {A B : Nat} {e : Int} : vf_n32 (UInt32.ofNat (FP.Core.encode FP.Core.b32 (FP.Core.roundRatio FP.Core.b32 false A B e))) := by
  refine fq_n0 ?_
  unfold FP.Core.roundRatio
  split
  · exact fq_nf (by decide) (by rw [fq_m]; decide)
  · exact fq_ns
theorem fq_nn {c : Nat} {q : Int} (hc : NrM c) (h2 : q ≤ 104) : vf_n32 (mkF c q) := fq_n0 (fq_nf hc.2 h2)
theorem fq_nm {c : Nat} {q r : Int} {d : Nat} {k : UInt32} (hk : FP.Core.decode FP.Core.b32 k.toNat = .fin false d r) (hc : NrM c) (h1 : -149 ≤ q) (h2 : q ≤ 104) : vf_n32 (FP.fmul (mkF c q) k) := by
  show vf_n32 (UInt32.ofNat (FP.Core.encode FP.Core.b32 (FP.Core.round FP.Core.b32 (FP.Core.exactProduct (FP.Core.decode FP.Core.b32 (mkF c q).toNat) (FP.Core.decode FP.Core.b32 k.toNat)))))
  rw [fq_dec hc h1 h2, hk]
  exact fq_n
theorem fq_cmp {c : Nat} {q r : Int} {k : UInt32} (hk : FP.Core.decode FP.Core.b32 k.toNat = .fin false 8388608 r) (hc : NrM c) (h1 : -149 ≤ q) (h2 : q ≤ 104) : FP.fcmp (mkF c q) k = some (compare ((c * 2 ^ (q - min q r).toNat : Nat) : Int) ((8388608 * 2 ^ (r - min q r).toNat : Nat) : Int)) := by
  show FP.Core.order (FP.Core.decode FP.Core.b32 (mkF c q).toNat) (FP.Core.decode FP.Core.b32 k.toNat) = _
  rw [fq_dec hc h1 h2, hk]
  rfl
theorem fq_ord {c : Nat} {q r : Int} (hc : NrM c) : (compare ((c * 2 ^ (q - min q r).toNat : Nat) : Int) ((8388608 * 2 ^ (r - min q r).toNat : Nat) : Int) = .lt) ↔ q < r := by
  by_cases g : q < r
  · rw [show (q - min q r).toNat = 0 by omega]
    obtain ⟨k, hk⟩ : ∃ k, (r - min q r).toNat = k + 1 := ⟨(r - q).toNat - 1, by omega⟩
    rw [hk, Nat.pow_succ, Nat.pow_zero, Nat.mul_one]
    have p := Nat.two_pow_pos k
    have : c < 8388608 * (2 ^ k * 2) := by have := hc.2; omega
    refine ⟨fun _ => g, fun _ => ?_⟩
    simp only [compare, compareOfLessAndEq]
    rw [if_pos (by omega)]
  · rw [show (r - min q r).toNat = 0 by omega, Nat.pow_zero, Nat.mul_one]
    have p := Nat.two_pow_pos (q - min q r).toNat
    have : 8388608 ≤ c * 2 ^ (q - min q r).toNat := Nat.le_trans hc.1 (Nat.le_mul_of_pos_right c p)
    refine ⟨fun z => ?_, fun z => absurd z g⟩
    simp only [compare, compareOfLessAndEq] at z
    rw [if_neg (by omega)] at z
    split at z <;> exact absurd z (by decide)
theorem fq_lt {op : CmpOp} {c : Nat} {q r : Int} {k : UInt32} (hk : FP.Core.decode FP.Core.b32 k.toNat = .fin false 8388608 r) (hc : NrM c) (h1 : -149 ≤ q) (h2 : q ≤ 104) : Op.cmpValue (FP.fcmp (mkF c q) k) op < 0 ↔ q < r := by
  rw [fq_cmp hk hc h1 h2]
  have z := fq_ord (q := q) (r := r) hc
  rw [← z]
  generalize compare ((c * 2 ^ (q - min q r).toNat : Nat) : Int) ((8388608 * 2 ^ (r - min q r).toNat : Nat) : Int) = w
  cases w <;> cases op <;> decide
theorem fq_sub {c : Nat} (hc : NrM c) : FP.fsub (mkF c (-23)) FP.fconst1 = UInt32.ofNat (FP.Core.encode FP.Core.b32 (FP.Core.roundRatio FP.Core.b32 false (c - 8388608) 1 (-23))) := by
  show UInt32.ofNat (FP.Core.encode FP.Core.b32 (FP.Core.round FP.Core.b32 (FP.Core.exactSum (FP.Core.decode FP.Core.b32 (mkF c (-23)).toNat) (FP.Core.negate (FP.Core.decode FP.Core.b32 FP.fconst1.toNat))))) = _
  rw [fq_dec hc (by decide) (by decide), fq_1]
  have e1 : FP.Core.exactSum (.fin false c (-23)) (FP.Core.negate (.fin false 8388608 (-23))) = .fin false (c - 8388608) (-23) := by
    have ev : FP.Core.sumUnits false c (-23) true 8388608 (-23) (-23) = (c : Int) - 8388608 := by
      show ((c * 2 ^ 0 : Nat) : Int) + -((8388608 * 2 ^ 0 : Nat) : Int) = _
      omega
    show FP.Core.Datum.fin (FP.Core.sumSign false true (FP.Core.sumUnits false c (-23) true 8388608 (-23) (-23))) (FP.Core.sumUnits false c (-23) true 8388608 (-23) (-23)).natAbs (-23) = _
    rw [ev]
    have es : FP.Core.sumSign false true ((c : Int) - 8388608) = false := by
      unfold FP.Core.sumSign
      split
      · rfl
      · exact decide_eq_false (by have := hc.1; omega)
    rw [es, show ((c : Int) - 8388608).natAbs = c - 8388608 by have := hc.1; omega]
  rw [e1]
  rfl
theorem fq_f2i {n t : Nat} (h1 : 2 ^ t ≤ n) (h2 : n < 2 ^ (t + 1)) (ht : t ≤ 23) (hN : NrM (n * 2 ^ (23 - t))) : FP.f2i (mkF (n * 2 ^ (23 - t)) (t - 23)) = nI n := by
  show FP.Core.toI (FP.Core.decode FP.Core.b32 (mkF (n * 2 ^ (23 - t)) (t - 23)).toNat) = _
  rw [fq_dec hN (by omega) (by omega)]
  have et : FP.Core.truncate false (n * 2 ^ (23 - t)) ((t : Int) - 23) = n := by
    show ((n * 2 ^ (23 - t) * 2 ^ ((t : Int) - 23).toNat / 2 ^ (-((t : Int) - 23)).toNat : Nat) : Int) = n
    rw [show ((t : Int) - 23).toNat = 0 by omega, show (-((t : Int) - 23)).toNat = 23 - t by omega, Nat.pow_zero, Nat.mul_one, Nat.mul_div_cancel _ (Nat.two_pow_pos _)]
  have hn : n < 16777216 := by
    have : (2 : Nat) ^ (t + 1) ≤ 2 ^ 24 := Nat.pow_le_pow_right (by decide) (by omega)
    have z3 : (2 : Nat) ^ 24 = 16777216 := by decide
    omega
  show Int32.ofInt (max (-2 ^ 31) (min (2 ^ 31 - 1) (FP.Core.truncate false (n * 2 ^ (23 - t)) ((t : Int) - 23)))) = _
  rw [et, show max (-2 ^ 31) (min (2 ^ 31 - 1) (n : Int)) = n by omega]
  rfl
theorem fq_dig {c : Nat} (hc : NrM c) : FP.f2i (FP.fmul (FP.fsub (mkF c (-23)) FP.fconst1) 1258291200) = nI (c - 8388608) ∧ vf_n32 (FP.fsub (mkF c (-23)) FP.fconst1) ∧ vf_n32 (FP.fmul (FP.fsub (mkF c (-23)) FP.fconst1) 1258291200) := by
  have n1 : vf_n32 (FP.fsub (mkF c (-23)) FP.fconst1) := by rw [fq_sub hc]; exact fq_n
  by_cases g : c = 8388608
  · subst g
    exact ⟨by decide +kernel, n1, by unfold vf_n32; decide +kernel⟩
  · obtain ⟨t, t1, t2, t3⟩ := fq_tt (n := c - 8388608) (by have := hc.1; omega) (by have := hc.2; omega)
    have t4 : t ≤ 22 := by
      by_cases g2 : t ≤ 22
      · exact g2
      · exfalso
        have z2 : (2 : Nat) ^ 23 ≤ 2 ^ t := Nat.pow_le_pow_right (by decide) (by omega)
        have z3 : (2 : Nat) ^ 23 = 8388608 := by decide
        have := hc.2; omega
    obtain ⟨e1, nN⟩ := fq_nrm (e := -23) t1 t2 t3 (by omega) (by omega)
    have es : FP.fsub (mkF c (-23)) FP.fconst1 = mkF ((c - 8388608) * 2 ^ (23 - t)) (t + -23 - 23) := by rw [fq_sub hc, e1]; rfl
    have em : FP.fmul (mkF ((c - 8388608) * 2 ^ (23 - t)) (t + -23 - 23)) 1258291200 = mkF ((c - 8388608) * 2 ^ (23 - t)) (t - 23) := by
      rw [fq_mul fq_8 nN (by omega) (by omega) (by omega) (by omega), show (t : Int) + -23 - 23 + 0 + 23 = t - 23 by omega]
    refine ⟨?_, n1, ?_⟩
    · rw [es, em]; exact fq_f2i t1 t2 t3 nN
    · rw [es, em]; exact fq_nn nN (by omega)

