/-! FLOATS: weights are numbers above 0 -/
def zv (a : UInt32) : Int := FP.Core.zval FP.Core.b32 (FP.Core.val32 a)
theorem zv_f (s : Bool) (c : Nat) (q : Int) : FP.Core.zval FP.Core.b32 (.fin s c q) = FP.Core.signed s (c * 2 ^ (q - FP.Core.b32.qmin).toNat) := rfl
theorem zv_f0 (s : Bool) (q : Int) : FP.Core.zval FP.Core.b32 (.fin s 0 q) = 0 := by rw [zv_f, Nat.zero_mul, FP.Core.signed_zero]
theorem zv_add {a b V : UInt32} (ha : FP.Core.FFin a) (hb : FP.Core.FFin b) (hV : FP.Core.val32 V ≠ .nan) (h : zv V ≤ zv a + zv b) : zv V ≤ zv (FP.fadd a b) := by
  obtain ⟨s, c, q, ea⟩ := ha
  obtain ⟨t, d, r, eb⟩ := hb
  have hx := FP.Core.val32_fits a
  have hy := FP.Core.val32_fits b
  rw [ea] at hx
  rw [eb] at hy
  obtain ⟨sg, n, e, h1, h2, h3⟩ := FP.Core.sum_units hx hy
  unfold zv at h ⊢
  rw [show FP.Core.val32 (FP.fadd a b) = _ from FP.Core.val32_fadd a b, ea, eb, h1]
  rw [ea, eb] at h
  refine FP.Core.zval_round_ge FP.Core.good_b32 (FP.Core.val32_fits V) hV (Int.le_refl _) h2 ?_
  rw [h3, Int.sub_self]
  simpa using h
theorem zv_0 : zv FP.fconst0 = 0 := by decide +kernel
theorem zv_1 : 0 < zv FP.fconst1 := by decide +kernel
theorem zv_cmp {a b : UInt32} (ha : FP.Core.val32 a ≠ .nan) (hb : FP.Core.val32 b ≠ .nan) : FP.fcmp a b = some (compare (zv a) (zv b)) := FP.Core.fcmp_zval ha hb
theorem fcg_0 {a b : UInt32} (ha : FP.Core.val32 a ≠ .nan) (hb : FP.Core.val32 b ≠ .nan) : (0 ≤ fcg a b) ↔ zv b ≤ zv a := by
  unfold fcg
  rw [zv_cmp ha hb]
  rcases Int.lt_trichotomy (zv a) (zv b) with h | h | h
  · have e : compare (zv a) (zv b) = .lt := Int.compare_eq_lt.mpr h
    rw [e]
    exact ⟨fun q => absurd q (by decide), fun q => by omega⟩
  · have e : compare (zv a) (zv b) = .eq := Int.compare_eq_eq.mpr h
    rw [e]
    exact ⟨fun _ => by omega, fun _ => by decide⟩
  · have e : compare (zv a) (zv b) = .gt := Int.compare_eq_gt.mpr h
    rw [e]
    exact ⟨fun _ => by omega, fun _ => by decide⟩
theorem fcl_0 {a b : UInt32} (ha : FP.Core.val32 a ≠ .nan) (hb : FP.Core.val32 b ≠ .nan) : (fcl a b ≤ 0) ↔ zv a ≤ zv b := by
  unfold fcl
  rw [zv_cmp ha hb]
  rcases Int.lt_trichotomy (zv a) (zv b) with h | h | h
  · have e : compare (zv a) (zv b) = .lt := Int.compare_eq_lt.mpr h
    rw [e]
    exact ⟨fun _ => by omega, fun _ => by decide⟩
  · have e : compare (zv a) (zv b) = .eq := Int.compare_eq_eq.mpr h
    rw [e]
    exact ⟨fun _ => by omega, fun _ => by decide⟩
  · have e : compare (zv a) (zv b) = .gt := Int.compare_eq_gt.mpr h
    rw [e]
    exact ⟨fun q => absurd q (by decide), fun q => by omega⟩
theorem fin_n {a : UInt32} (h : FP.Core.FFin a) : FP.Core.val32 a ≠ .nan := h.ne_nan
theorem neg_n (a : UInt32) : (FP.fneg a).toNat % 2 ^ 31 = a.toNat % 2 ^ 31 ∧ FP.Core.val32 (FP.fneg a) = FP.Core.negate (FP.Core.val32 a) := by
  have ha := a.toNat_lt
  have key : (FP.fneg a).toNat = a.toNat ^^^ 2 ^ 31 := by
    show (a ^^^ 0x80000000).toNat = _
    rw [UInt32.toNat_xor]; rfl
  by_cases h : 2 ^ 31 ≤ a.toNat
  · have e : (FP.fneg a).toNat + 2 ^ 31 = a.toNat := by
      rw [key]
      have h1 : a.toNat = (a.toNat - 2 ^ 31) + 2 ^ 31 := by omega
      have h2 : (a.toNat - 2 ^ 31) ^^^ 2 ^ 31 = 2 ^ 31 + (a.toNat - 2 ^ 31) := by
        have := Nat.two_pow_add_eq_or_of_lt (i := 31) (b := a.toNat - 2 ^ 31) (by omega) 1
        rw [Nat.mul_one] at this
        apply Nat.eq_of_testBit_eq
        intro i
        rw [this, Nat.testBit_xor, Nat.testBit_or]
        by_cases hi : i = 31
        · subst hi
          have : (a.toNat - 2 ^ 31).testBit 31 = false := Nat.testBit_lt_two_pow (by omega)
          rw [this]; simp
        · have : (2 ^ 31 : Nat).testBit i = false := by rw [Nat.testBit_two_pow]; simp; omega
          rw [this]; simp
      have h3 : a.toNat ^^^ 2 ^ 31 = a.toNat - 2 ^ 31 := by
        have h4 : a.toNat = (a.toNat - 2 ^ 31) ^^^ 2 ^ 31 := by omega
        have h5 : ((a.toNat - 2 ^ 31) ^^^ 2 ^ 31) ^^^ 2 ^ 31 = a.toNat - 2 ^ 31 := by rw [Nat.xor_assoc, Nat.xor_self, Nat.xor_zero]
        rw [← h4] at h5
        exact h5
      omega
    exact ⟨by omega, FP.Core.val32_neg_bits (.inl (by omega))⟩
  · have e : (FP.fneg a).toNat = a.toNat + 2 ^ 31 := by
      rw [key]
      have := Nat.two_pow_add_eq_or_of_lt (i := 31) (b := a.toNat) (by omega) 1
      rw [Nat.mul_one] at this
      have h2 : a.toNat ^^^ 2 ^ 31 = 2 ^ 31 + a.toNat := by
        apply Nat.eq_of_testBit_eq
        intro i
        rw [this, Nat.testBit_xor, Nat.testBit_or]
        by_cases hi : i = 31
        · subst hi
          have : (a.toNat).testBit 31 = false := Nat.testBit_lt_two_pow (by omega)
          rw [this]; simp
        · have : (2 ^ 31 : Nat).testBit i = false := by rw [Nat.testBit_two_pow]; simp; omega
          rw [this]; simp
      omega
    exact ⟨by omega, FP.Core.val32_neg_bits (.inr (by omega))⟩
/-- the size of a float, as it is reckoned -/
def dabs (y : UInt32) : UInt32 := if 0 ≤ fcg y FP.fconst0 then y else FP.fneg y
theorem dabs_mag (y : UInt32) : (dabs y).toNat % 2 ^ 31 = y.toNat % 2 ^ 31 := by
  unfold dabs
  split
  · rfl
  · exact (neg_n y).1
theorem dabs_nn {y : UInt32} (h : FP.Core.FFin y) : 0 ≤ zv (dabs y) := by
  unfold dabs
  by_cases q : 0 ≤ fcg y FP.fconst0
  · rw [if_pos q]
    have := (fcg_0 (fin_n h) (fin_n fin_0)).mp q
    rw [zv_0] at this
    exact this
  · rw [if_neg q]
    have h1 : ¬ zv FP.fconst0 ≤ zv y := fun z => q ((fcg_0 (fin_n h) (fin_n fin_0)).mpr z)
    rw [zv_0] at h1
    unfold zv
    rw [(neg_n y).2, FP.Core.zval_negate]
    unfold zv at h1
    omega
/-- a quotient of one that is no less than 0 by one above 0 -/
theorem zv_div {a b : UInt32} (ha : FP.Core.FFin a) (hb : FP.Core.FFin b) (h0 : 0 ≤ zv a) (h1 : 0 < zv b) : 0 ≤ zv (FP.fdiv a b) := by
  obtain ⟨s, c, q, ea⟩ := ha
  obtain ⟨t, d, r, eb⟩ := hb
  unfold zv at h0 h1 ⊢
  rw [ea] at h0
  rw [eb] at h1
  rw [show FP.Core.val32 (FP.fdiv a b) = _ from FP.Core.val32_fdiv a b, ea, eb]
  have hd : d ≠ 0 := by
    rintro rfl
    have := zv_f0 t r
    omega
  have ht : t = false := by
    cases t with
    | false => rfl
    | true =>
      rw [zv_f] at h1
      unfold FP.Core.signed at h1
      simp only [if_true] at h1
      omega
  subst ht
  show 0 ≤ FP.Core.zval FP.Core.b32 (FP.Core.quotient FP.Core.b32 (.fin s c q) (.fin false d r))
  simp only [FP.Core.quotient, if_neg hd]
  unfold FP.Core.zval
  rw [FP.Core.sgn_roundRatio]
  cases s with
  | false => simp [FP.Core.signed]
  | true =>
    have hc : c = 0 := by
      rw [zv_f] at h0
      unfold FP.Core.signed at h0
      simp only [if_true] at h0
      have hp := Nat.two_pow_pos (q - FP.Core.b32.qmin).toNat
      rcases Nat.eq_zero_or_pos c with z | z
      · exact z
      · have := Nat.mul_pos z hp
        omega
    subst hc
    unfold FP.Core.roundRatio
    rw [if_pos rfl]
    show 0 ≤ FP.Core.signed _ (0 * _)
    rw [Nat.zero_mul, FP.Core.signed_zero]
    exact Int.le_refl 0
theorem mag_1 : FP.fconst1.toNat % 2 ^ 31 = 127 * 2 ^ 23 := by decide
/-- a part of 1 is above 0, and 1 at most or so -/
theorem inv_pos {s : UInt32} (hs : s.toNat % 2 ^ 31 < 170 * 2 ^ 23) (h1 : 0 < zv s) : 0 < zv (FP.fdiv FP.fconst1 s) := by
  have hfin : FP.Core.FFin s := FP.Core.fin_of_lt32 hs (by decide)
  have hge := zv_div fin_1 hfin (Int.le_of_lt zv_1) h1
  have hnan : FP.Core.val32 (FP.fdiv FP.fconst1 s) ≠ .nan := by
    have hz : ¬ FP.Core.FZero s := fun q => by rw [show zv s = 0 from q.zval] at h1; omega
    exact (FP.Core.notNaN_iff32 _).mp (FP.Core.fdiv_out (fin_1.notNaN) hfin hz)
  have hne : ¬ zv (FP.fdiv FP.fconst1 s) = 0 := by
    intro q
    have hm0 := (FP.Core.zval_eq_zero32 hnan).mp q
    obtain ⟨t, d, r, eb⟩ := hfin
    have hfb := FP.Core.val32_fits s
    rw [eb] at hfb
    have hd : d ≠ 0 := by
      rintro rfl
      have : zv s = 0 := by
        unfold zv
        rw [eb]
        exact zv_f0 t r
      omega
    have hdec : FP.Core.decode FP.Core.b32 (FP.fdiv FP.fconst1 s).toNat = FP.Core.roundRatio FP.Core.b32 (false != t) (2 ^ 23) d (-23 - r) := by
      have := FP.Core.val32_fdiv FP.fconst1 s
      rw [show FP.Core.val32 FP.fconst1 = .fin false (2 ^ 23) (-23) from FP.Core.val32_fconst1, eb] at this
      simp only [FP.Core.quotient, if_neg hd] at this
      exact this
    have hr := hfb.2.1
    rw [FP.Core.qmin_b32] at hr
    have hzs : FP.Core.zmag FP.Core.b32 (.fin t d r) < FP.Core.b32.tails * 2 ^ (170 - 1) := by
      have hz1 := FP.Core.zmag_toNat32 (a := s) (by rw [eb]; exact FP.Core.Datum.noConfusion)
      rw [eb] at hz1
      rw [hz1]
      exact (FP.Core.units_lt_start (K := 170) (by rw [FP.Core.tails_b32]; exact hs)).2
    have hge2 : 84 * FP.Core.b32.tails ≤ FP.Core.mag FP.Core.b32 (FP.fdiv FP.fconst1 s).toNat := by
      refine FP.Core.mag_ge FP.Core.good_b32 hdec (by omega) (e0 := -298 - r) (by rw [FP.Core.qmin_b32]; omega) (by omega) (by rw [FP.Core.tails_b32, FP.Core.infBits_b32]; decide) ?_
      rw [FP.Core.unitsOf_start (by decide), FP.Core.qmin_b32, FP.Core.tails_b32]
      have e1 : FP.Core.inUnits (2 ^ 23) (-23 - r) (-298 - r) = 2 ^ 23 * 2 ^ 275 := by
        unfold FP.Core.inUnits
        congr 2
        omega
      have e2 : 2 ^ ((-149 : Int) - (-298 - r)).toNat * d = FP.Core.zmag FP.Core.b32 (.fin t d r) := by
        show _ = d * 2 ^ (r - FP.Core.b32.qmin).toNat
        rw [FP.Core.qmin_b32, Nat.mul_comm]
        congr 2
        omega
      rw [e1, Nat.mul_assoc, e2]
      rw [FP.Core.tails_b32] at hzs
      calc 2 ^ 23 * 2 ^ (84 - 1) * FP.Core.zmag FP.Core.b32 (.fin t d r) ≤ 2 ^ 23 * 2 ^ (84 - 1) * (2 ^ 23 * 2 ^ (170 - 1)) := Nat.mul_le_mul_left _ (Nat.le_of_lt hzs)
        _ = 2 ^ 23 * 2 ^ 275 := by rw [← Nat.pow_add, ← Nat.pow_add, ← Nat.pow_add, ← Nat.pow_add]
    rw [FP.Core.mag_toNat32, FP.Core.tails_b32] at hge2
    omega
  omega
