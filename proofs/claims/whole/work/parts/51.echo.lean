/-! THE ECHO: how far across and along -/
theorem qf_valG {A B : UInt32} {i j : Int} (hA : FP.Core.FInt i A) (hB : FP.Core.FInt j B) (h0 : 0 < j) : FP.Core.val32 (FP.fdiv A B) = FP.Core.roundRatio FP.Core.b32 (FP.Core.sgn (FP.Core.val32 A)) i.natAbs j.natAbs 0 := by
  unfold FP.Core.FInt at hA hB
  rw [show FP.Core.val32 (FP.fdiv A B) = _ from FP.Core.val32_fdiv _ _]
  cases ea : FP.Core.val32 A with
  | nan => rw [ea] at hA; exact hA.elim
  | inf s => rw [ea] at hA; exact hA.elim
  | fin s c q =>
    cases eb : FP.Core.val32 B with
    | nan => rw [eb] at hB; exact hB.elim
    | inf s => rw [eb] at hB; exact hB.elim
    | fin t d r =>
      rw [ea] at hA
      rw [eb] at hB
      exact q_whole hA hB h0
theorem FInt_fin {i : Int} {a : UInt32} (h : FP.Core.FInt i a) : FP.Core.FFin a := by
  unfold FP.Core.FInt at h
  cases ea : FP.Core.val32 a with
  | nan => rw [ea] at h; exact h.elim
  | inf s => rw [ea] at h; exact h.elim
  | fin s c q => exact ⟨s, c, q, ea⟩
theorem i2f_n {n : Nat} (h : n ≤ 2 ^ 24) : FP.Core.FInt (n : Int) (FP.i2f (nI n)) := by
  have e : (nI n).toInt = (n : Int) := toI_n (by omega)
  have := FP.Core.i2f_int (a := nI n) (by rw [e]; omega)
  rw [e] at this
  exact this
def echT (r wv : Nat) : UInt32 := FP.fdiv (FP.fmul 1082130432 (FP.i2f (nI r))) (FP.i2f (nI wv))
theorem e4_int {r : Nat} (hr : r ≤ 2000) : FP.Core.FInt ((4 * r : Nat) : Int) (FP.fmul 1082130432 (FP.i2f (nI r))) := by
  have h4 : FP.Core.FInt 4 (1082130432 : UInt32) := by
    have := i2f_n (n := 4) (by decide)
    rw [show FP.i2f (nI 4) = 1082130432 from by decide +kernel] at this
    exact this
  have := FP.Core.fmul_int h4 (i2f_n (n := r) (by omega)) (by omega)
  rw [show ((4 * r : Nat) : Int) = 4 * (r : Int) by omega]
  exact this
theorem echT_bd {r wv : Nat} (hr : r < wv) (hw : wv ≤ 2000) : FP.Core.FFin (echT r wv) ∧ 0 ≤ zv (echT r wv) ∧ zv (echT r wv) ≤ zv 1082130432 ∧ (echT r wv).toNat % 2 ^ 31 ≤ 129 * 2 ^ 23 := by
  have hA := e4_int (r := r) (by omega)
  have hB := i2f_n (n := wv) (by omega)
  have hv := qf_valG hA hB (by omega)
  have hm : (echT r wv).toNat % 2 ^ 31 ≤ 129 * 2 ^ 23 := by
    rw [← FP.Core.mag_toNat32]
    refine FP.Core.mag_le FP.Core.good_b32 (e0 := -149) hv (by omega) (by rw [FP.Core.qmin_b32]; omega) (by omega) ?_
    rw [u32_st (by omega), FP.Core.qmin_b32]
    unfold FP.Core.inUnits
    have e1 : (2 : Nat) ^ 23 * 2 ^ (129 - 1) = 4 * 2 ^ 149 := by rw [← Nat.pow_add]
    have e2 : (0 - -149 : Int).toNat = 149 := rfl
    have e3 : (-149 - -149 : Int).toNat = 0 := rfl
    rw [e1, e2, e3, Nat.pow_zero, Nat.mul_one, Nat.mul_right_comm]
    refine Nat.mul_le_mul_right _ ?_
    omega
  have hf : FP.Core.FFin (echT r wv) := FP.Core.fin_of_lt32 (K := 130) (by omega) (by omega)
  have hs : FP.Core.sgn (FP.Core.val32 (FP.fmul 1082130432 (FP.i2f (nI r)))) = false := by
    by_cases h0 : r = 0
    · subst h0; decide +kernel
    · obtain ⟨s, c, q, ea⟩ := FInt_fin hA
      unfold FP.Core.FInt at hA
      rw [ea] at hA ⊢
      have := FP.Core.whole_sign hA (by omega)
      show s = false
      rw [this]
      exact decide_eq_false (by omega)
  have hz : 0 ≤ zv (echT r wv) := by
    unfold zv FP.Core.zval
    rw [show FP.Core.val32 (echT r wv) = _ from hv, FP.Core.sgn_roundRatio, hs]
    unfold FP.Core.signed
    simp
  refine ⟨hf, hz, ?_, hm⟩
  have h1 := zv_mag (fin_n hf)
  have h2 := zv_mag (fin_n fin_4)
  have h3 : FP.Core.unitsOf FP.Core.b32 ((echT r wv).toNat % 2 ^ 31) ≤ FP.Core.unitsOf FP.Core.b32 ((1082130432 : UInt32).toNat % 2 ^ 31) := FP.Core.unitsOf_le_iff.mpr (by rw [show (1082130432 : UInt32).toNat % 2 ^ 31 = 129 * 2 ^ 23 from by decide]; exact hm)
  have h4 : 0 ≤ zv 1082130432 := by decide +kernel
  omega
theorem zv_sub {a b L U : UInt32} (ha : FP.Core.FFin a) (hb : FP.Core.FFin b) (hL : FP.Core.val32 L ≠ .nan) (hU : FP.Core.val32 U ≠ .nan) (h1 : zv L ≤ zv a - zv b) (h2 : zv a - zv b ≤ zv U) : zv L ≤ zv (FP.fsub a b) ∧ zv (FP.fsub a b) ≤ zv U := by
  obtain ⟨s, c, q, ea⟩ := ha
  obtain ⟨t, d, r, eb⟩ := hb
  have hx := FP.Core.val32_fits a
  have hy := FP.Core.negate_fits (FP.Core.val32_fits b)
  rw [ea] at hx
  rw [eb] at hy
  have hy' : FP.Core.fits FP.Core.b32 (.fin (!t) d r) := hy
  obtain ⟨sg, n, e, g1, g2, g3⟩ := FP.Core.sum_units hx hy'
  have eN : FP.Core.zval FP.Core.b32 (.fin (!t) d r) = - zv b := by
    unfold zv
    rw [eb, ← FP.Core.zval_negate]
    rfl
  have eA : FP.Core.zval FP.Core.b32 (.fin s c q) = zv a := by unfold zv; rw [ea]
  rw [eN, eA] at g3
  have ev : FP.Core.val32 (FP.fsub a b) = FP.Core.round FP.Core.b32 (.fin sg n e) := by
    rw [show FP.Core.val32 (FP.fsub a b) = _ from FP.Core.val32_fsub a b, ea, eb]
    rw [← g1]
    rfl
  constructor
  · show zv L ≤ FP.Core.zval _ _
    rw [ev]
    refine FP.Core.zval_round_ge FP.Core.good_b32 (FP.Core.val32_fits L) hL (Int.le_refl _) g2 ?_
    rw [g3, Int.sub_self]
    show zv L * _ ≤ _
    simp only [Int.toNat_zero, Nat.pow_zero, Int.natCast_one, Int.mul_one]
    omega
  · show FP.Core.zval _ _ ≤ zv U
    rw [ev]
    refine FP.Core.zval_round_le FP.Core.good_b32 (FP.Core.val32_fits U) hU (Int.le_refl _) g2 ?_
    rw [g3, Int.sub_self]
    show _ ≤ zv U * _
    simp only [Int.toNat_zero, Nat.pow_zero, Int.natCast_one, Int.mul_one]
    omega
theorem zv_mul {a b : UInt32} (ha : FP.Core.FFin a) (hb : FP.Core.FFin b) (h0 : 0 ≤ zv a) (h1 : 0 ≤ zv b) (h2 : zv b ≤ (FP.Core.one32 : Int)) : 0 ≤ zv (FP.fmul a b) ∧ zv (FP.fmul a b) ≤ zv a := by
  have hxa := FP.Core.val32_fits a
  have hna := fin_n ha
  obtain ⟨s, c, q, ea⟩ := ha
  obtain ⟨t, d, r, eb⟩ := hb
  have hx := FP.Core.val32_fits a
  have hy := FP.Core.val32_fits b
  rw [ea] at hx
  rw [eb] at hy
  obtain ⟨g1, g2, g3⟩ := FP.Core.product_units hx hy
  have eP : FP.Core.signed (s != t) (FP.Core.inUnits (c * d) (q + r) (2 * FP.Core.b32.qmin)) = zv a * zv b := by
    rw [g3, FP.Core.signed_xor]
    unfold zv
    rw [ea, eb]
    rfl
  have ev : FP.Core.val32 (FP.fmul a b) = FP.Core.round FP.Core.b32 (.fin (s != t) (c * d) (q + r)) := by
    rw [show FP.Core.val32 (FP.fmul a b) = _ from FP.Core.val32_fmul a b, ea, eb, g1]
  have q1 : (2 * FP.Core.b32.qmin) ≤ FP.Core.b32.qmin := by rw [FP.Core.qmin_b32]; decide
  have q2 : ((2 ^ (FP.Core.b32.qmin - 2 * FP.Core.b32.qmin).toNat : Nat) : Int) = (FP.Core.one32 : Int) := by
    rw [FP.Core.qmin_b32]
    rfl
  constructor
  · show 0 ≤ FP.Core.zval _ _
    rw [ev, ← zv_0]
    refine FP.Core.zval_round_ge FP.Core.good_b32 (FP.Core.val32_fits FP.fconst0) (fin_n fin_0) q1 g2 ?_
    rw [eP]
    show zv FP.fconst0 * _ ≤ _
    rw [zv_0, Int.zero_mul]
    exact Int.mul_nonneg h0 h1
  · show FP.Core.zval _ _ ≤ zv a
    rw [ev]
    refine FP.Core.zval_round_le FP.Core.good_b32 hxa hna q1 g2 ?_
    rw [eP, q2]
    exact Int.mul_le_mul_of_nonneg_left h2 h0
theorem f2i_bd {p : UInt32} {s : Nat} (hn : FP.Core.val32 p ≠ .nan) (h0 : 0 ≤ zv p) (h1 : zv p ≤ (s : Int) * (FP.Core.one32 : Int)) (hs : s ≤ 1000) : ∃ b : Nat, b ≤ s ∧ FP.f2i p = nI b := by
  have hv : (FP.f2i p).toInt = _ := FP.Core.f2i_val hn
  have ho := FP.Core.one32_pos
  refine ⟨FP.Core.zmag FP.Core.b32 (FP.Core.val32 p) / FP.Core.one32, ?_, ?_⟩
  · have hz : (zv p).natAbs = FP.Core.zmag FP.Core.b32 (FP.Core.val32 p) := by unfold zv FP.Core.zval; exact FP.Core.natAbs_signed _ _
    have : FP.Core.zmag FP.Core.b32 (FP.Core.val32 p) ≤ s * FP.Core.one32 := by
      have e : ((s * FP.Core.one32 : Nat) : Int) = (s : Int) * (FP.Core.one32 : Int) := Int.natCast_mul _ _
      omega
    exact Nat.div_le_of_le_mul (by rw [Nat.mul_comm]; exact this)
  · have hz : (zv p).natAbs = FP.Core.zmag FP.Core.b32 (FP.Core.val32 p) := by unfold zv FP.Core.zval; exact FP.Core.natAbs_signed _ _
    have hle : FP.Core.zmag FP.Core.b32 (FP.Core.val32 p) / FP.Core.one32 ≤ s := by
      have : FP.Core.zmag FP.Core.b32 (FP.Core.val32 p) ≤ s * FP.Core.one32 := by
        have e : ((s * FP.Core.one32 : Nat) : Int) = (s : Int) * (FP.Core.one32 : Int) := Int.natCast_mul _ _
        omega
      exact Nat.div_le_of_le_mul (by rw [Nat.mul_comm]; exact this)
    refine Int32.toInt_inj.mp ?_
    rw [hv, toI_n (by omega)]
    have hsg : FP.Core.signed (FP.Core.sgn (FP.Core.val32 p)) (FP.Core.zmag FP.Core.b32 (FP.Core.val32 p) / FP.Core.one32) = ((FP.Core.zmag FP.Core.b32 (FP.Core.val32 p) / FP.Core.one32 : Nat) : Int) := by
      cases e : FP.Core.sgn (FP.Core.val32 p) with
      | false => rfl
      | true =>
        have h2 : zv p = FP.Core.signed true (FP.Core.zmag FP.Core.b32 (FP.Core.val32 p)) := by unfold zv FP.Core.zval; rw [e]
        have h3 : FP.Core.zmag FP.Core.b32 (FP.Core.val32 p) = 0 := by
          unfold FP.Core.signed at h2
          simp only [if_true] at h2
          omega
        rw [h3, Nat.zero_div]
        rfl
    rw [hsg]
    generalize FP.Core.zmag FP.Core.b32 (FP.Core.val32 p) / FP.Core.one32 = m at *
    omega
theorem one_1 : zv FP.fconst1 = (FP.Core.one32 : Int) := by decide +kernel
theorem echo_b {u : UInt32} {s : Nat} (hf : FP.Core.FFin u) (h0 : 0 ≤ zv u) (h1 : zv u ≤ zv FP.fconst1) (hs : s ≤ 1000) : nn32 (FP.fmul (FP.i2f (nI s)) u) = true ∧ ∃ b : Nat, b ≤ s ∧ FP.f2i (FP.fmul (FP.i2f (nI s)) u) = nI b := by
  have hi := i2f_n (n := s) (by omega)
  have hzi : zv (FP.i2f (nI s)) = (s : Int) * (FP.Core.one32 : Int) := FP.Core.FInt_zval hi
  have hnn : FP.Core.fIsNaN (FP.fmul (FP.i2f (nI s)) u) = false := FP.Core.fmul_out (fin_i _) hf
  have h0s : 0 ≤ zv (FP.i2f (nI s)) := by rw [hzi]; exact Int.mul_nonneg (by omega) (by omega)
  obtain ⟨m1, m2⟩ := zv_mul (fin_i (nI s)) hf h0s h0 (by rw [← one_1]; exact h1)
  exact ⟨nn_of hnn, f2i_bd ((FP.Core.notNaN_iff32 _).mp hnn) m1 (by rw [← hzi]; exact m2) hs⟩
