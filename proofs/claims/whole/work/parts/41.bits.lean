theorem pw_key {c' T P D N : Nat} {q' : Int} (hN : N = P + D) (hq : -(N : Int) ≤ q') (r : c' * 2 ^ (q' + (N : Nat)).toNat = T * 2 ^ D) : c' * 2 ^ P * 2 ^ q'.toNat = T * 2 ^ (-q').toNat := by
  apply Nat.eq_of_mul_eq_mul_right (Nat.two_pow_pos D)
  have s1 : 2 ^ (q' + (N : Nat)).toNat * 2 ^ (-q').toNat = 2 ^ N * 2 ^ q'.toNat := by
    rw [← Nat.pow_add, ← Nat.pow_add]; congr 1; omega
  have s2 : (2 : Nat) ^ N = 2 ^ P * 2 ^ D := by rw [← Nat.pow_add, hN]
  calc c' * 2 ^ P * 2 ^ q'.toNat * 2 ^ D = c' * (2 ^ P * 2 ^ D * 2 ^ q'.toNat) := by ac_rfl
    _ = c' * (2 ^ (q' + (N : Nat)).toNat * 2 ^ (-q').toNat) := by rw [← s2, ← s1]
    _ = (c' * 2 ^ (q' + (N : Nat)).toNat) * 2 ^ (-q').toNat := by ac_rfl
    _ = T * 2 ^ D * 2 ^ (-q').toNat := by rw [r]
    _ = _ := by ac_rfl
/-! BITS: a float number that is not subnormal, by halving and doubling (b32) -/
def Nf (a : UInt32) (c : Nat) (q : Int) : Prop := FP.Core.val32 a = .fin false c q ∧ 2 ^ 23 ≤ c ∧ c < 2 ^ 24 ∧ (-149) ≤ q ∧ q ≤ 104
theorem Nf_fit {c : Nat} {q : Int} (h1 : 2 ^ 23 ≤ c) (h2 : c < 2 ^ 24) (h3 : (-149) ≤ q) (h4 : q ≤ 104) : FP.Core.fits FP.Core.b32 (.fin false c q) := by
  have e1 : FP.Core.b32.p = 24 := by decide +kernel
  have e2 : FP.Core.b32.qmin = (-149) := by decide +kernel
  have e3 : FP.Core.b32.qmax = 104 := by decide +kernel
  have e4 : FP.Core.b32.tails = 2 ^ 23 := by decide +kernel
  refine ⟨?_, ?_, ?_, .inr ?_⟩
  · rw [e1]; exact h2
  · rw [e2]; exact h3
  · rw [e3]; exact h4
  · rw [e4]; exact h1
theorem Nf_2 : FP.Core.val32 FP.fconst2 = .fin false (2 ^ 23) (-22) := by decide +kernel
theorem Nf_nn {a : UInt32} {c : Nat} {q : Int} (h : Nf a c q) : FP.Core.val32 a ≠ .nan := by rw [h.1]; exact FP.Core.Datum.noConfusion
theorem Nf_t {a : UInt32} (h : FP.Core.val32 a ≠ .nan) : nn32 a = true := nn_of ((FP.Core.notNaN_iff32 a).mpr h)
theorem Nf_half {a : UInt32} {c : Nat} {q : Int} (h : Nf a c q) (hq : (-149) + 1 ≤ q) : Nf (FP.fdiv a FP.fconst2) c (q - 1) := by
  obtain ⟨h0, h1, h2, h3, h4⟩ := h
  refine ⟨?_, h1, h2, by omega, by omega⟩
  rw [show FP.Core.val32 (FP.fdiv a FP.fconst2) = _ from FP.Core.val32_fdiv a FP.fconst2, h0, Nf_2]
  simp only [FP.Core.quotient]
  rw [if_neg (by decide)]
  refine FP.Core.roundRatio_exact FP.Core.good_b32 (by decide) (Nf_fit h1 h2 (by omega) (by omega)) ?_
  rw [show (q - -22 - (q - 1)).toNat = 23 by omega, show (q - 1 - (q - -22)).toNat = 0 by omega]
  omega
theorem Nf_dbl {a : UInt32} {c : Nat} {q : Int} (h : Nf a c q) (hq : q + 1 ≤ 104) : Nf (FP.fmul a FP.fconst2) c (q + 1) := by
  obtain ⟨h0, h1, h2, h3, h4⟩ := h
  refine ⟨?_, h1, h2, by omega, by omega⟩
  rw [show FP.Core.val32 (FP.fmul a FP.fconst2) = _ from FP.Core.val32_fmul a FP.fconst2, h0, Nf_2]
  simp only [FP.Core.exactProduct, FP.Core.round]
  refine FP.Core.roundRatio_exact FP.Core.good_b32 (by decide) (Nf_fit h1 h2 (by omega) (by omega)) ?_
  rw [show (q + -22 - (q + 1)).toNat = 0 by omega, show (q + 1 - (q + -22)).toNat = 23 by omega]
  omega
theorem Nf_z {a : UInt32} {c : Nat} {q : Int} (h : Nf a c q) : FP.Core.zval FP.Core.b32 (FP.Core.val32 a) = ((c * 2 ^ (q + 149).toNat : Nat) : Int) := by
  rw [h.1]
  have e2 : FP.Core.b32.qmin = (-149) := by decide +kernel
  show FP.Core.signed false (c * 2 ^ (q - FP.Core.b32.qmin).toNat) = _
  rw [e2, show q - (-149) = q + 149 by omega]
  rfl
theorem Nf_p2 : Nf FP.fconst2 (2 ^ 23) (-22) := ⟨Nf_2, by decide, by decide, by decide, by decide⟩
theorem Nf_p1 : Nf FP.fconst1 (2 ^ 23) (-23) := ⟨by decide +kernel, by decide, by decide, by decide, by decide⟩
theorem Nf_lt {a b : UInt32} {c : Nat} {q r : Int} (h : Nf a c q) (h' : Nf b (2 ^ 23) r) : FP.Core.zval FP.Core.b32 (FP.Core.val32 a) < FP.Core.zval FP.Core.b32 (FP.Core.val32 b) ↔ q < r := by
  rw [Nf_z h, Nf_z h', Int.ofNat_lt]
  obtain ⟨_, h1, h2, h3, h4⟩ := h
  obtain ⟨_, _, _, r3, r4⟩ := h'
  constructor
  · intro hh
    refine Decidable.byContradiction (fun z => ?_)
    have p : 2 ^ (r + 149).toNat ≤ 2 ^ (q + 149).toNat := Nat.pow_le_pow_right (by decide) (by omega)
    have := Nat.mul_le_mul h1 p
    omega
  · intro hh
    have p : 2 ^ ((q + 149).toNat + 1) ≤ 2 ^ (r + 149).toNat := Nat.pow_le_pow_right (by decide) (by omega)
    have p1 : c * 2 ^ (q + 149).toNat < 2 ^ 24 * 2 ^ (q + 149).toNat := Nat.mul_lt_mul_of_pos_right h2 (Nat.two_pow_pos _)
    have p2 : 2 ^ 23 * 2 ^ ((q + 149).toNat + 1) ≤ 2 ^ 23 * 2 ^ (r + 149).toNat := Nat.mul_le_mul_left _ p
    have p3 : 2 ^ 24 * 2 ^ (q + 149).toNat = 2 ^ 23 * 2 ^ ((q + 149).toNat + 1) := by rw [← Nat.pow_add, ← Nat.pow_add]; congr 1; omega
    omega
theorem Nf_l {a : UInt32} {c : Nat} {q : Int} (h : Nf a c q) : (fcl a FP.fconst2 < 0) ↔ q < -22 := by
  rw [← Nf_lt h Nf_p2]
  unfold fcl
  rw [show FP.fcmp a FP.fconst2 = _ from FP.Core.fcmp_zval (Nf_nn h) (Nf_nn Nf_p2)]
  rcases Int.lt_trichotomy (FP.Core.zval FP.Core.b32 (FP.Core.val32 a)) (FP.Core.zval FP.Core.b32 (FP.Core.val32 FP.fconst2)) with z | z | z
  · rw [Int.compare_eq_lt.mpr z]; exact ⟨fun _ => z, fun _ => by decide⟩
  · rw [Int.compare_eq_eq.mpr z]; exact ⟨fun p => absurd p (by decide), fun p => by omega⟩
  · rw [Int.compare_eq_gt.mpr z]; exact ⟨fun p => absurd p (by decide), fun p => by omega⟩
theorem Nf_g {a : UInt32} {c : Nat} {q : Int} (h : Nf a c q) : (0 ≤ fcg a FP.fconst1) ↔ -23 ≤ q := by
  rw [← Int.not_lt, ← Nf_lt h Nf_p1]
  unfold fcg
  rw [show FP.fcmp a FP.fconst1 = _ from FP.Core.fcmp_zval (Nf_nn h) (Nf_nn Nf_p1)]
  rcases Int.lt_trichotomy (FP.Core.zval FP.Core.b32 (FP.Core.val32 a)) (FP.Core.zval FP.Core.b32 (FP.Core.val32 FP.fconst1)) with z | z | z
  · rw [Int.compare_eq_lt.mpr z]; exact ⟨fun p => absurd p (by decide), fun p => absurd z p⟩
  · rw [Int.compare_eq_eq.mpr z]; exact ⟨fun p => by omega, fun p => by decide⟩
  · rw [Int.compare_eq_gt.mpr z]; exact ⟨fun p => by omega, fun p => by decide⟩
/-- the last step: what lies above 1, as a whole number -/
theorem Nf_end {a : UInt32} {c : Nat} (h : Nf a c (-23)) : FP.Core.val32 (FP.fsub a FP.fconst1) ≠ .nan ∧ FP.Core.FInt ((c : Int) - 2 ^ 23) (FP.fmul (FP.fsub a FP.fconst1) (1258291200 : UInt32)) := by
  obtain ⟨h0, h1, h2, h3, h4⟩ := h
  have e1 : FP.Core.b32.p = 24 := by decide +kernel
  have e2 : FP.Core.b32.qmin = (-149) := by decide +kernel
  have e3 : FP.Core.b32.qmax = 104 := by decide +kernel
  have hs : FP.Core.exactSum (FP.Core.val32 a) (FP.Core.negate (FP.Core.val32 FP.fconst1)) = .fin false (c - 2 ^ 23) (-23) := by
    rw [h0, Nf_p1.1]
    simp only [FP.Core.negate, FP.Core.exactSum, Int.min_self, FP.Core.sumUnits, FP.Core.inUnits, Int.sub_self, Bool.not_false]
    have v : FP.Core.signed false (c * 2 ^ (0 : Int).toNat) + FP.Core.signed true (2 ^ 23 * 2 ^ (0 : Int).toNat) = ((c - 2 ^ 23 : Nat) : Int) := by
      simp only [FP.Core.signed, if_true, Bool.false_eq_true, if_false, Int.toNat_zero, Nat.pow_zero, Nat.mul_one]
      omega
    rw [v]
    have sg : FP.Core.sumSign false true ((c - 2 ^ 23 : Nat) : Int) = false := by
      unfold FP.Core.sumSign
      split
      · rfl
      · exact decide_eq_false (by omega)
    rw [sg, Int.natAbs_natCast]
  obtain ⟨c', q', r1, r2⟩ := FP.Core.round_exact FP.Core.good_b32 false (c := c - 2 ^ 23) (q := -23) (by rw [e1]; omega) (by rw [e2]; decide) (by rw [e3]; decide)
  have hv : FP.Core.val32 (FP.fsub a FP.fconst1) = .fin false c' q' := by
    rw [show FP.Core.val32 (FP.fsub a FP.fconst1) = _ from FP.Core.val32_fsub a FP.fconst1, hs, r1]
  have hf := FP.Core.val32_fits (FP.fsub a FP.fconst1)
  rw [hv] at hf
  obtain ⟨_, f2, f3, _⟩ := hf
  rw [e2] at f2
  refine ⟨by rw [hv]; exact FP.Core.Datum.noConfusion, ?_⟩
  unfold FP.Core.FInt
  rw [show FP.Core.val32 (FP.fmul (FP.fsub a FP.fconst1) (1258291200 : UInt32)) = _ from FP.Core.val32_fmul _ _]
  refine FP.Core.whole_round FP.Core.good_b32 FP.Core.wide_b32 (by rw [e1]; omega) ?_
  rw [hv, show FP.Core.val32 (1258291200 : UInt32) = .fin false (2 ^ 23) 0 from by decide +kernel]
  simp only [FP.Core.exactProduct, FP.Core.Whole]
  unfold FP.Core.inUnits at r2
  rw [e2] at r2
  simp only [FP.Core.signed, bne_self_eq_false, Bool.false_eq_true, if_false, Int.add_zero]
  have k1 : (-23 - (-149) : Int).toNat = 126 := by decide
  rw [k1] at r2
  -- c' * 2^(q'+149) = T * 2^126
  have r3 : c' * 2 ^ (q' + (149 : Nat)).toNat = (c - 2 ^ 23) * 2 ^ 126 := by
    rw [← r2]; congr 2
  have key := pw_key (P := 23) (by decide) (by omega) r3
  rw [key, Int.natCast_mul, show ((c - 2 ^ 23 : Nat) : Int) = (c : Int) - 2 ^ 23 from by omega]
theorem nn_of64 {a : UInt64} (h : FP.Core.dIsNaN a = false) : nn64 a = true := by
  unfold nn64
  simp only [decide_eq_true_eq]
  have h1 : ¬ (9218868437227405312 < a.toNat % 2 ^ 63) := fun q => by rw [(FP.Core.isNaN_bits a).mpr q] at h; cases h
  rw [UInt64.le_iff_toNat_le, UInt64.toNat_and]
  show a.toNat &&& 9223372036854775807 ≤ 9218868437227405312
  rw [show (9223372036854775807 : Nat) = 2 ^ 63 - 1 from rfl, Nat.and_two_pow_sub_one_eq_mod]
  omega
/-! BITS: a double number that is not subnormal, by halving and doubling (b64) -/
def Nd (a : UInt64) (c : Nat) (q : Int) : Prop := FP.Core.val64 a = .fin false c q ∧ 2 ^ 52 ≤ c ∧ c < 2 ^ 53 ∧ (-1074) ≤ q ∧ q ≤ 971
theorem Nd_fit {c : Nat} {q : Int} (h1 : 2 ^ 52 ≤ c) (h2 : c < 2 ^ 53) (h3 : (-1074) ≤ q) (h4 : q ≤ 971) : FP.Core.fits FP.Core.b64 (.fin false c q) := by
  have e1 : FP.Core.b64.p = 53 := by decide +kernel
  have e2 : FP.Core.b64.qmin = (-1074) := by decide +kernel
  have e3 : FP.Core.b64.qmax = 971 := by decide +kernel
  have e4 : FP.Core.b64.tails = 2 ^ 52 := by decide +kernel
  refine ⟨?_, ?_, ?_, .inr ?_⟩
  · rw [e1]; exact h2
  · rw [e2]; exact h3
  · rw [e3]; exact h4
  · rw [e4]; exact h1
theorem Nd_2 : FP.Core.val64 (4611686018427387904 : UInt64) = .fin false (2 ^ 52) (-51) := by decide +kernel
theorem Nd_nn {a : UInt64} {c : Nat} {q : Int} (h : Nd a c q) : FP.Core.val64 a ≠ .nan := by rw [h.1]; exact FP.Core.Datum.noConfusion
theorem Nd_t {a : UInt64} (h : FP.Core.val64 a ≠ .nan) : nn64 a = true := nn_of64 ((FP.Core.notNaN_iff a).mpr h)
theorem Nd_half {a : UInt64} {c : Nat} {q : Int} (h : Nd a c q) (hq : (-1074) + 1 ≤ q) : Nd (FP.ddiv a (4611686018427387904 : UInt64)) c (q - 1) := by
  obtain ⟨h0, h1, h2, h3, h4⟩ := h
  refine ⟨?_, h1, h2, by omega, by omega⟩
  rw [show FP.Core.val64 (FP.ddiv a (4611686018427387904 : UInt64)) = _ from FP.Core.val64_ddiv a (4611686018427387904 : UInt64), h0, Nd_2]
  simp only [FP.Core.quotient]
  rw [if_neg (by decide)]
  refine FP.Core.roundRatio_exact FP.Core.good_b64 (by decide) (Nd_fit h1 h2 (by omega) (by omega)) ?_
  rw [show (q - -51 - (q - 1)).toNat = 52 by omega, show (q - 1 - (q - -51)).toNat = 0 by omega]
  omega
theorem Nd_dbl {a : UInt64} {c : Nat} {q : Int} (h : Nd a c q) (hq : q + 1 ≤ 971) : Nd (FP.dmul a (4611686018427387904 : UInt64)) c (q + 1) := by
  obtain ⟨h0, h1, h2, h3, h4⟩ := h
  refine ⟨?_, h1, h2, by omega, by omega⟩
  rw [show FP.Core.val64 (FP.dmul a (4611686018427387904 : UInt64)) = _ from FP.Core.val64_dmul a (4611686018427387904 : UInt64), h0, Nd_2]
  simp only [FP.Core.exactProduct, FP.Core.round]
  refine FP.Core.roundRatio_exact FP.Core.good_b64 (by decide) (Nd_fit h1 h2 (by omega) (by omega)) ?_
  rw [show (q + -51 - (q + 1)).toNat = 0 by omega, show (q + 1 - (q + -51)).toNat = 52 by omega]
  omega
theorem Nd_z {a : UInt64} {c : Nat} {q : Int} (h : Nd a c q) : FP.Core.zval FP.Core.b64 (FP.Core.val64 a) = ((c * 2 ^ (q + 1074).toNat : Nat) : Int) := by
  rw [h.1]
  have e2 : FP.Core.b64.qmin = (-1074) := by decide +kernel
  show FP.Core.signed false (c * 2 ^ (q - FP.Core.b64.qmin).toNat) = _
  rw [e2, show q - (-1074) = q + 1074 by omega]
  rfl
theorem Nd_p2 : Nd (4611686018427387904 : UInt64) (2 ^ 52) (-51) := ⟨Nd_2, by decide, by decide, by decide, by decide⟩
theorem Nd_p1 : Nd FP.dconst1 (2 ^ 52) (-52) := ⟨by decide +kernel, by decide, by decide, by decide, by decide⟩
theorem Nd_lt {a b : UInt64} {c : Nat} {q r : Int} (h : Nd a c q) (h' : Nd b (2 ^ 52) r) : FP.Core.zval FP.Core.b64 (FP.Core.val64 a) < FP.Core.zval FP.Core.b64 (FP.Core.val64 b) ↔ q < r := by
  rw [Nd_z h, Nd_z h', Int.ofNat_lt]
  obtain ⟨_, h1, h2, h3, h4⟩ := h
  obtain ⟨_, _, _, r3, r4⟩ := h'
  constructor
  · intro hh
    refine Decidable.byContradiction (fun z => ?_)
    have p : 2 ^ (r + 1074).toNat ≤ 2 ^ (q + 1074).toNat := Nat.pow_le_pow_right (by decide) (by omega)
    have := Nat.mul_le_mul h1 p
    omega
  · intro hh
    have p : 2 ^ ((q + 1074).toNat + 1) ≤ 2 ^ (r + 1074).toNat := Nat.pow_le_pow_right (by decide) (by omega)
    have p1 : c * 2 ^ (q + 1074).toNat < 2 ^ 53 * 2 ^ (q + 1074).toNat := Nat.mul_lt_mul_of_pos_right h2 (Nat.two_pow_pos _)
    have p2 : 2 ^ 52 * 2 ^ ((q + 1074).toNat + 1) ≤ 2 ^ 52 * 2 ^ (r + 1074).toNat := Nat.mul_le_mul_left _ p
    have p3 : 2 ^ 53 * 2 ^ (q + 1074).toNat = 2 ^ 52 * 2 ^ ((q + 1074).toNat + 1) := by rw [← Nat.pow_add, ← Nat.pow_add]; congr 1; omega
    omega
theorem Nd_l {a : UInt64} {c : Nat} {q : Int} (h : Nd a c q) : (dcl a (4611686018427387904 : UInt64) < 0) ↔ q < -51 := by
  rw [← Nd_lt h Nd_p2]
  unfold dcl
  rw [show FP.dcmp a (4611686018427387904 : UInt64) = _ from FP.Core.dcmp_zval (Nd_nn h) (Nd_nn Nd_p2)]
  rcases Int.lt_trichotomy (FP.Core.zval FP.Core.b64 (FP.Core.val64 a)) (FP.Core.zval FP.Core.b64 (FP.Core.val64 (4611686018427387904 : UInt64))) with z | z | z
  · rw [Int.compare_eq_lt.mpr z]; exact ⟨fun _ => z, fun _ => by decide⟩
  · rw [Int.compare_eq_eq.mpr z]; exact ⟨fun p => absurd p (by decide), fun p => by omega⟩
  · rw [Int.compare_eq_gt.mpr z]; exact ⟨fun p => absurd p (by decide), fun p => by omega⟩
theorem Nd_g {a : UInt64} {c : Nat} {q : Int} (h : Nd a c q) : (0 ≤ dcg a FP.dconst1) ↔ -52 ≤ q := by
  rw [← Int.not_lt, ← Nd_lt h Nd_p1]
  unfold dcg
  rw [show FP.dcmp a FP.dconst1 = _ from FP.Core.dcmp_zval (Nd_nn h) (Nd_nn Nd_p1)]
  rcases Int.lt_trichotomy (FP.Core.zval FP.Core.b64 (FP.Core.val64 a)) (FP.Core.zval FP.Core.b64 (FP.Core.val64 FP.dconst1)) with z | z | z
  · rw [Int.compare_eq_lt.mpr z]; exact ⟨fun p => absurd p (by decide), fun p => absurd z p⟩
  · rw [Int.compare_eq_eq.mpr z]; exact ⟨fun p => by omega, fun p => by decide⟩
  · rw [Int.compare_eq_gt.mpr z]; exact ⟨fun p => by omega, fun p => by decide⟩
/-- the last step: what lies above 1, as a whole number -/
theorem Nd_end {a : UInt64} {c : Nat} (h : Nd a c (-52)) : FP.Core.val64 (FP.dsub a FP.dconst1) ≠ .nan ∧ FP.Core.DInt ((c : Int) - 2 ^ 52) (FP.dmul (FP.dsub a FP.dconst1) (4841369599423283200 : UInt64)) := by
  obtain ⟨h0, h1, h2, h3, h4⟩ := h
  have e1 : FP.Core.b64.p = 53 := by decide +kernel
  have e2 : FP.Core.b64.qmin = (-1074) := by decide +kernel
  have e3 : FP.Core.b64.qmax = 971 := by decide +kernel
  have hs : FP.Core.exactSum (FP.Core.val64 a) (FP.Core.negate (FP.Core.val64 FP.dconst1)) = .fin false (c - 2 ^ 52) (-52) := by
    rw [h0, Nd_p1.1]
    simp only [FP.Core.negate, FP.Core.exactSum, Int.min_self, FP.Core.sumUnits, FP.Core.inUnits, Int.sub_self, Bool.not_false]
    have v : FP.Core.signed false (c * 2 ^ (0 : Int).toNat) + FP.Core.signed true (2 ^ 52 * 2 ^ (0 : Int).toNat) = ((c - 2 ^ 52 : Nat) : Int) := by
      simp only [FP.Core.signed, if_true, Bool.false_eq_true, if_false, Int.toNat_zero, Nat.pow_zero, Nat.mul_one]
      omega
    rw [v]
    have sg : FP.Core.sumSign false true ((c - 2 ^ 52 : Nat) : Int) = false := by
      unfold FP.Core.sumSign
      split
      · rfl
      · exact decide_eq_false (by omega)
    rw [sg, Int.natAbs_natCast]
  obtain ⟨c', q', r1, r2⟩ := FP.Core.round_exact FP.Core.good_b64 false (c := c - 2 ^ 52) (q := -52) (by rw [e1]; omega) (by rw [e2]; decide) (by rw [e3]; decide)
  have hv : FP.Core.val64 (FP.dsub a FP.dconst1) = .fin false c' q' := by
    rw [show FP.Core.val64 (FP.dsub a FP.dconst1) = _ from FP.Core.val64_dsub a FP.dconst1, hs, r1]
  have hf := FP.Core.val64_fits (FP.dsub a FP.dconst1)
  rw [hv] at hf
  obtain ⟨_, f2, f3, _⟩ := hf
  rw [e2] at f2
  refine ⟨by rw [hv]; exact FP.Core.Datum.noConfusion, ?_⟩
  unfold FP.Core.DInt
  rw [show FP.Core.val64 (FP.dmul (FP.dsub a FP.dconst1) (4841369599423283200 : UInt64)) = _ from FP.Core.val64_dmul _ _]
  refine FP.Core.whole_round FP.Core.good_b64 FP.Core.wide_b64 (by rw [e1]; omega) ?_
  rw [hv, show FP.Core.val64 (4841369599423283200 : UInt64) = .fin false (2 ^ 52) 0 from by decide +kernel]
  simp only [FP.Core.exactProduct, FP.Core.Whole]
  unfold FP.Core.inUnits at r2
  rw [e2] at r2
  simp only [FP.Core.signed, bne_self_eq_false, Bool.false_eq_true, if_false, Int.add_zero]
  have k1 : (-52 - (-1074) : Int).toNat = 1022 := by decide
  rw [k1] at r2
  -- c' * 2^(q'+1074) = T * 2^1022
  have r3 : c' * 2 ^ (q' + (1074 : Nat)).toNat = (c - 2 ^ 52) * 2 ^ 1022 := by
    rw [← r2]; congr 2
  have key := pw_key (P := 52) (by decide) (by omega) r3
  rw [key, Int.natCast_mul, show ((c - 2 ^ 52 : Nat) : Int) = (c : Int) - 2 ^ 52 from by omega]
