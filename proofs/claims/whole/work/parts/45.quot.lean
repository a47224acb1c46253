/-! QUOTIENTS of whole numbers, and which floats have plain bits -/
theorem q_whole {f : FP.Core.Fmt} {i j : Int} {s t : Bool} {c d : Nat} {q r : Int} (hi : FP.Core.Whole i (.fin s c q)) (hj : FP.Core.Whole j (.fin t d r)) (h0 : 0 < j) : FP.Core.quotient f (.fin s c q) (.fin t d r) = FP.Core.roundRatio f s i.natAbs j.natAbs 0 := by
  have ht : t = false := by
    have := FP.Core.whole_sign hj (by omega)
    rw [this]
    exact decide_eq_false (by omega)
  have hd : ¬ d = 0 := fun z => by have := (FP.Core.whole_zero hj).mp z; omega
  have e1 := FP.Core.whole_natAbs hi
  have e2 := FP.Core.whole_natAbs hj
  simp only [FP.Core.quotient, if_neg hd]
  rw [ht]
  have es : (s != false) = s := by cases s <;> rfl
  rw [es]
  refine FP.Core.roundRatio_congr (by omega) (by omega) ?_
  generalize i.natAbs = I at *
  generalize j.natAbs = J at *
  have hx : (q - r - 0).toNat + (-q).toNat + r.toNat = (0 - (q - r)).toNat + q.toNat + (-r).toNat := by omega
  generalize (q - r - 0).toNat = X at *
  generalize (0 - (q - r)).toNat = Y at *
  generalize (-q).toNat = qm at *
  generalize (-r).toNat = rm at *
  generalize q.toNat = qp at *
  generalize r.toNat = rp at *
  apply Nat.eq_of_mul_eq_mul_right (Nat.mul_pos (Nat.two_pow_pos qm) (Nat.two_pow_pos rp))
  have p1 : 2 ^ X * (2 ^ qm * 2 ^ rp) = 2 ^ Y * (2 ^ qp * 2 ^ rm) := by
    rw [← Nat.pow_add, ← Nat.pow_add, ← Nat.pow_add, ← Nat.pow_add]
    congr 1
    omega
  calc c * J * 2 ^ X * (2 ^ qm * 2 ^ rp) = c * J * (2 ^ X * (2 ^ qm * 2 ^ rp)) := by ac_rfl
    _ = c * J * (2 ^ Y * (2 ^ qp * 2 ^ rm)) := by rw [p1]
    _ = (c * 2 ^ qp) * (J * 2 ^ rm) * 2 ^ Y := by ac_rfl
    _ = (I * 2 ^ qm) * (d * 2 ^ rp) * 2 ^ Y := by rw [e1, ← e2]
    _ = I * d * 2 ^ Y * (2 ^ qm * 2 ^ rp) := by ac_rfl
theorem qf_val {y S : Int32} (hy : y.toInt.natAbs ≤ 2 ^ 24) (h0 : 0 < S.toInt) (hS : S.toInt ≤ 2 ^ 24) : FP.Core.val32 (FP.fdiv (FP.i2f y) (FP.i2f S)) = FP.Core.roundRatio FP.Core.b32 (FP.Core.sgn (FP.Core.val32 (FP.i2f y))) y.toInt.natAbs S.toInt.natAbs 0 := by
  have w1 : FP.Core.FInt _ (FP.i2f y) := FP.Core.i2f_int hy
  have w2 : FP.Core.FInt _ (FP.i2f S) := FP.Core.i2f_int (a := S) (by omega)
  obtain ⟨s, c, q, ea⟩ := fin_i y
  obtain ⟨t, d, r, eb⟩ := fin_i S
  unfold FP.Core.FInt at w1 w2
  rw [show FP.Core.val32 (FP.fdiv (FP.i2f y) (FP.i2f S)) = _ from FP.Core.val32_fdiv _ _]
  rw [ea] at w1 ⊢
  rw [eb] at w2 ⊢
  exact q_whole w1 w2 h0
theorem qd_val {y S : Int32} (h0 : 0 < S.toInt) : FP.Core.val64 (FP.ddiv (FP.i2d y) (FP.i2d S)) = FP.Core.roundRatio FP.Core.b64 (FP.Core.sgn (FP.Core.val64 (FP.i2d y))) y.toInt.natAbs S.toInt.natAbs 0 := by
  have w1 : FP.Core.DInt _ (FP.i2d y) := FP.Core.i2d_int y
  have w2 : FP.Core.DInt _ (FP.i2d S) := FP.Core.i2d_int S
  unfold FP.Core.DInt at w1 w2
  rw [show FP.Core.val64 (FP.ddiv (FP.i2d y) (FP.i2d S)) = _ from FP.Core.val64_ddiv _ _]
  cases ea : FP.Core.val64 (FP.i2d y) with
  | nan => rw [ea] at w1; exact w1.elim
  | inf s => rw [ea] at w1; exact w1.elim
  | fin s c q =>
    cases eb : FP.Core.val64 (FP.i2d S) with
    | nan => rw [eb] at w2; exact w2.elim
    | inf s => rw [eb] at w2; exact w2.elim
    | fin t d r =>
      rw [ea] at w1
      rw [eb] at w2
      exact q_whole w1 w2 h0
theorem u32_st {K : Nat} (h : 1 ≤ K) : FP.Core.unitsOf FP.Core.b32 (K * 2 ^ 23) = 2 ^ 23 * 2 ^ (K - 1) := by
  have := FP.Core.unitsOf_start (f := FP.Core.b32) h
  rw [FP.Core.tails_b32] at this
  exact this
theorem u64_st {K : Nat} (h : 1 ≤ K) : FP.Core.unitsOf FP.Core.b64 (K * 2 ^ 52) = 2 ^ 52 * 2 ^ (K - 1) := by
  have := FP.Core.unitsOf_start (f := FP.Core.b64) h
  rw [FP.Core.tails_b64] at this
  exact this
theorem pw_sp (a b c : Nat) (h : c = a + b) : (2 : Nat) ^ c = 2 ^ a * 2 ^ b := by rw [h, Nat.pow_add]
theorem qf_le {y S : Int32} (hy : y.toInt.natAbs ≤ S.toInt.natAbs) (h0 : 0 < S.toInt) (hS : S.toInt ≤ 2 ^ 24) : (FP.fdiv (FP.i2f y) (FP.i2f S)).toNat % 2 ^ 31 ≤ 127 * 2 ^ 23 := by
  have hv := qf_val (y := y) (by omega) h0 hS
  rw [← FP.Core.mag_toNat32]
  refine FP.Core.mag_le FP.Core.good_b32 (e0 := -149) hv (by omega) (by rw [FP.Core.qmin_b32]; omega) (by omega) ?_
  rw [u32_st (by omega), FP.Core.qmin_b32]
  unfold FP.Core.inUnits
  have e1 : (2 : Nat) ^ 23 * 2 ^ (127 - 1) = 2 ^ 149 := by rw [← Nat.pow_add]
  have e2 : (0 - -149 : Int).toNat = 149 := rfl
  have e3 : (-149 - -149 : Int).toNat = 0 := rfl
  rw [e1, e2, e3]
  rw [Nat.pow_zero, Nat.mul_one, Nat.mul_comm (2 ^ 149)]
  exact Nat.mul_le_mul_right _ hy
theorem qf_ge {y S : Int32} (hy : y.toInt.natAbs ≤ 2 ^ 24) (hyS : S.toInt.natAbs ≤ y.toInt.natAbs * 2 ^ 14) (h0 : 0 < S.toInt) (hS : S.toInt ≤ 2 ^ 24) : 113 * 2 ^ 23 ≤ (FP.fdiv (FP.i2f y) (FP.i2f S)).toNat % 2 ^ 31 := by
  have hv := qf_val (y := y) hy h0 hS
  rw [← FP.Core.mag_toNat32]
  refine FP.Core.mag_ge FP.Core.good_b32 (e0 := -149) hv (by omega) (by rw [FP.Core.qmin_b32]; omega) (by omega) (by rw [FP.Core.infBits_b32]; decide) ?_
  rw [u32_st (by omega), FP.Core.qmin_b32]
  unfold FP.Core.inUnits
  have e1 : (2 : Nat) ^ 23 * 2 ^ (113 - 1) = 2 ^ 135 := by rw [← Nat.pow_add]
  have e2 : (0 - -149 : Int).toNat = 149 := rfl
  have e3 : (-149 - -149 : Int).toNat = 0 := rfl
  rw [e1, e2, e3, Nat.pow_zero, Nat.mul_one, Nat.mul_comm (2 ^ 135), pw_sp 14 135 149 rfl, ← Nat.mul_assoc]
  exact Nat.mul_le_mul_right _ hyS
theorem qd_le {y S : Int32} (hy : y.toInt.natAbs ≤ S.toInt.natAbs * 2 ^ 14) (h0 : 0 < S.toInt) : (FP.ddiv (FP.i2d y) (FP.i2d S)).toNat % 2 ^ 63 ≤ 1037 * 2 ^ 52 := by
  have hv := qd_val (y := y) h0
  rw [← FP.Core.mag_toNat64]
  refine FP.Core.mag_le FP.Core.good_b64 (e0 := -1074) hv (by omega) (by rw [FP.Core.qmin_b64]; omega) (by omega) ?_
  rw [u64_st (by omega), FP.Core.qmin_b64]
  unfold FP.Core.inUnits
  have e1 : (2 : Nat) ^ 52 * 2 ^ (1037 - 1) = 2 ^ 1088 := by rw [← Nat.pow_add]
  have e2 : (0 - -1074 : Int).toNat = 1074 := rfl
  have e3 : (-1074 - -1074 : Int).toNat = 0 := rfl
  rw [e1, e2, e3]
  rw [Nat.pow_zero, Nat.mul_one, Nat.mul_comm (2 ^ 1088), pw_sp 14 1074 1088 rfl, ← Nat.mul_assoc]
  exact Nat.mul_le_mul_right _ hy
theorem qd_ge {y S : Int32} (hyS : S.toInt.natAbs ≤ y.toInt.natAbs * 2 ^ 4) (h0 : 0 < S.toInt) : 1019 * 2 ^ 52 ≤ (FP.ddiv (FP.i2d y) (FP.i2d S)).toNat % 2 ^ 63 := by
  have hv := qd_val (y := y) h0
  rw [← FP.Core.mag_toNat64]
  refine FP.Core.mag_ge FP.Core.good_b64 (e0 := -1074) hv (by omega) (by rw [FP.Core.qmin_b64]; omega) (by omega) (by rw [FP.Core.infBits_b64]; decide) ?_
  rw [u64_st (by omega), FP.Core.qmin_b64]
  unfold FP.Core.inUnits
  have e1 : (2 : Nat) ^ 52 * 2 ^ (1019 - 1) = 2 ^ 1070 := by rw [← Nat.pow_add]
  have e2 : (0 - -1074 : Int).toNat = 1074 := rfl
  have e3 : (-1074 - -1074 : Int).toNat = 0 := rfl
  rw [e1, e2, e3, Nat.pow_zero, Nat.mul_one, Nat.mul_comm (2 ^ 1070), pw_sp 4 1070 1074 rfl, ← Nat.mul_assoc]
  exact Nat.mul_le_mul_right _ hyS
theorem sg_i {y : Int32} (hy : y.toInt.natAbs ≤ 2 ^ 24) (h : y.toInt ≠ 0) : FP.Core.sgn (FP.Core.val32 (FP.i2f y)) = decide (y.toInt < 0) := by
  have w1 : FP.Core.FInt _ (FP.i2f y) := FP.Core.i2f_int hy
  obtain ⟨s, c, q, ea⟩ := fin_i y
  unfold FP.Core.FInt at w1
  rw [ea] at w1 ⊢
  exact FP.Core.whole_sign w1 h
theorem sg_d {y : Int32} (h : y.toInt ≠ 0) : FP.Core.sgn (FP.Core.val64 (FP.i2d y)) = decide (y.toInt < 0) := by
  have w1 : FP.Core.DInt _ (FP.i2d y) := FP.Core.i2d_int y
  unfold FP.Core.DInt at w1
  cases ea : FP.Core.val64 (FP.i2d y) with
  | nan => rw [ea] at w1; exact w1.elim
  | inf s => rw [ea] at w1; exact w1.elim
  | fin s c q =>
    rw [ea] at w1
    exact FP.Core.whole_sign w1 h
theorem qd_good {n m : Nat} (hn : n ≤ 159984) (hm0 : 0 < m) (hm : m ≤ 16) (hle : n ≤ 9999 * m) : GD (FP.ddiv (FP.i2d (nI n)) (FP.i2d (nI m))) ∧ FP.Core.val64 (FP.ddiv (FP.i2d (nI n)) (FP.i2d (nI m))) ≠ .nan := by
  have ey : (nI n).toInt = (n : Int) := toI_n (by omega)
  have eS : (nI m).toInt = (m : Int) := toI_n (by omega)
  have hv := qd_val (y := nI n) (S := nI m) (by omega)
  have hnn : FP.Core.val64 (FP.ddiv (FP.i2d (nI n)) (FP.i2d (nI m))) ≠ .nan := by rw [hv]; exact FP.Core.roundRatio_ne_nan _ _ _ _ _
  refine ⟨?_, hnn⟩
  have hsg := FP.Core.sgn_bits hnn
  rw [hv, FP.Core.sgn_roundRatio] at hsg
  by_cases h : n = 0
  · subst h
    left
    rw [show FP.Core.sgn (FP.Core.val64 (FP.i2d (nI 0))) = false from by decide +kernel] at hsg
    have h1 : ¬ 2 ^ 63 ≤ (FP.ddiv (FP.i2d (nI 0)) (FP.i2d (nI m))).toNat := fun z => by rw [decide_eq_true z] at hsg; cases hsg
    have h2 : FP.Core.DZero (FP.ddiv (FP.i2d (nI 0)) (FP.i2d (nI m))) := ⟨_, _, by rw [hv]; show FP.Core.roundRatio _ _ 0 _ _ = _; unfold FP.Core.roundRatio; rw [if_pos rfl]⟩
    have h3 := (FP.Core.zero_bits2 _).mp h2
    omega
  · right
    rw [sg_d (by omega), decide_eq_false (by omega)] at hsg
    have h1 : ¬ 2 ^ 63 ≤ (FP.ddiv (FP.i2d (nI n)) (FP.i2d (nI m))).toNat := fun z => by rw [decide_eq_true z] at hsg; cases hsg
    have a1 := qd_le (y := nI n) (S := nI m) (by omega) (by omega)
    have a2 := qd_ge (y := nI n) (S := nI m) (by omega) (by omega)
    omega
