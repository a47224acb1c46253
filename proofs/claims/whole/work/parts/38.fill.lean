theorem mag_zv {a b : UInt32} (ha : FP.Core.val32 a ≠ .nan) (hb : FP.Core.val32 b ≠ .nan) (h0 : 0 ≤ zv b) (h : zv b ≤ zv a) : b.toNat % 2 ^ 31 ≤ a.toNat % 2 ^ 31 := by
  have e1 := FP.Core.zmag_toNat32 ha
  have e2 := FP.Core.zmag_toNat32 hb
  refine (FP.Core.unitsOf_le_iff (f := FP.Core.b32)).mp ?_
  rw [← e1, ← e2]
  unfold zv FP.Core.zval at h0 h
  revert h0 h
  generalize FP.Core.zmag FP.Core.b32 (FP.Core.val32 a) = x
  generalize FP.Core.zmag FP.Core.b32 (FP.Core.val32 b) = y
  cases FP.Core.sgn (FP.Core.val32 a) <;> cases FP.Core.sgn (FP.Core.val32 b) <;> simp only [FP.Core.signed, if_true, Bool.false_eq_true, if_false] <;> intro h0 h <;> omega
theorem zv_i {n : Nat} (h1 : 1 ≤ n) (h2 : n ≤ 500) : 0 < zv (FP.i2f (nI n)) := by
  have := FP.Core.FInt_zval (FP.Core.i2f_int (a := nI n) (by rw [toI_n (by omega)]; omega))
  unfold zv
  rw [show FP.Core.zval FP.Core.b32 (FP.Core.val32 (FP.i2f (nI n))) = _ from this, toI_n (by omega)]
  exact Int.mul_pos (by omega) (by have := FP.Core.one32_pos; omega)
/-- weight of a size of difference -/
def fvS (r : Row) (D : UInt32) : UInt32 := FP.fdiv FP.fconst1 (FP.fadd FP.fconst1 (FP.fdiv D (FP.i2f (r 9))))
def fDS (r : Row) (c : Nat) (own : UInt32) : UInt32 := dabs (FP.fsub (sGlow r (pos c)) own)
theorem fD_mag {r : Row} {c : Nat} {own : UInt32} (ho : own.toNat % 2 ^ 31 < 165 * 2 ^ 23) : (FP.fsub (sGlow r (pos c)) own).toNat % 2 ^ 31 < 167 * 2 ^ 23 := FP.Core.fsub_mag (mag_glow r _) ho (by decide)
theorem fD_fin {r : Row} {c : Nat} {own : UInt32} (ho : own.toNat % 2 ^ 31 < 165 * 2 ^ 23) : FP.Core.FFin (FP.fsub (sGlow r (pos c)) own) := FP.Core.fin_of_lt32 (fD_mag ho) (by decide)
theorem w_facts {r : Row} (hv : VR r) {D : UInt32} (hm : D.toNat % 2 ^ 31 < 167 * 2 ^ 23) (h0 : 0 ≤ zv D) :
    nn32 (FP.fdiv D (FP.i2f (r 9))) = true ∧ nn32 (FP.fadd FP.fconst1 (FP.fdiv D (FP.i2f (r 9)))) = true ∧ nn32 (fvS r D) = true ∧ (fvS r D).toNat % 2 ^ 31 < 129 * 2 ^ 23 ∧ 0 < zv (fvS r D) := by
  obtain ⟨h91, h92, h93⟩ := VR_9 hv
  have hne : (r 9).toInt ≠ 0 := by rw [h91, toI_n (by omega)]; omega
  have hb := FP.Core.i2f_big hne
  have hD : FP.Core.FFin D := FP.Core.fin_of_lt32 hm (by decide)
  have hq : (FP.fdiv D (FP.i2f (r 9))).toNat % 2 ^ 31 < 168 * 2 ^ 23 := by
    have := FP.Core.fdiv_mag (a := D) (b := FP.i2f (r 9)) (K := 167) (L := 127) hm hb.1 hb.2 (by decide) (by decide)
    exact Nat.lt_of_lt_of_le this (by decide)
  have hqf : FP.Core.FFin (FP.fdiv D (FP.i2f (r 9))) := FP.Core.fin_of_lt32 hq (by decide)
  have hq0 : 0 ≤ zv (FP.fdiv D (FP.i2f (r 9))) := zv_div hD (fin_i _) h0 (by rw [h91]; exact zv_i h92 h93)
  have hs : (FP.fadd FP.fconst1 (FP.fdiv D (FP.i2f (r 9)))).toNat % 2 ^ 31 < 170 * 2 ^ 23 := FP.Core.fadd_mag (by decide) hq (by decide)
  have hsf : FP.Core.FFin (FP.fadd FP.fconst1 (FP.fdiv D (FP.i2f (r 9)))) := FP.Core.fin_of_lt32 hs (by decide)
  have hs1 : zv FP.fconst1 ≤ zv (FP.fadd FP.fconst1 (FP.fdiv D (FP.i2f (r 9)))) := zv_add fin_1 hqf (fin_n fin_1) (by omega)
  have hsm := mag_zv (fin_n hsf) (fin_n fin_1) (Int.le_of_lt zv_1) hs1
  rw [mag_1] at hsm
  have hvm : (fvS r D).toNat % 2 ^ 31 < 129 * 2 ^ 23 := by
    have := FP.Core.fdiv_mag (a := FP.fconst1) (b := FP.fadd FP.fconst1 (FP.fdiv D (FP.i2f (r 9)))) (K := 128) (L := 127) (by decide) hsm (Nat.lt_trans hs (by decide)) (by decide) (by decide)
    exact Nat.lt_of_lt_of_le this (by decide)
  exact ⟨nn_of hqf.notNaN, nn_of hsf.notNaN, nn_of (FP.Core.fin_of_lt32 hvm (by decide)).notNaN, hvm, inv_pos hs (by have := zv_1; omega)⟩
abbrev FSt : Type := UInt32 × UInt32 × Bool
def cNo (e x y : Int32) : Nat := 16 * tn e + 4 * tn y + tn x
/-- one cell beside: what it adds -/
def stF (r : Row) (e : Int32) (own : UInt32) (x y : Int32) (s : FSt) : FSt :=
  if okC r e x y ∧ (lkS r (cNo e x y)).1 = 0 ∧ ¬ 0 < fcg (fDS r (cNo e x y) own) (FP.fmul 1082130432 (FP.i2f (r 9))) then (FP.fadd s.1 (fvS r (fDS r (cNo e x y) own)), FP.fadd s.2.1 (FP.fmul (fvS r (fDS r (cNo e x y) own)) (FP.i2f (enc (lkS r (cNo e x y)).2.1))), true) else s
def FI (i : Nat) (s : FSt) : Prop := s.1.toNat % 2 ^ 31 < (130 + 2 * i) * 2 ^ 23 ∧ s.2.1.toNat % 2 ^ 31 < (164 + 2 * i) * 2 ^ 23 ∧ 0 ≤ zv s.1 ∧ (s.2.2 = true → 0 < zv s.1) ∧ (s.2.2 = false → s.1 = FP.fconst0)
def s0F : FSt := (FP.fconst0, FP.fconst0, false)
theorem FI_0 : FI 0 s0F := ⟨by decide, by decide, by decide +kernel, fun q => absurd q (by decide), fun _ => rfl⟩
theorem FI_add {r : Row} (hv : VR r) {i : Nat} (hi : i ≤ 4) {s : FSt} (h : FI i s) {D : UInt32} (hm : D.toNat % 2 ^ 31 < 167 * 2 ^ 23) (h0 : 0 ≤ zv D) (x : Int32) :
    nn32 (FP.fadd s.1 (fvS r D)) = true ∧ nn32 (FP.fmul (fvS r D) (FP.i2f x)) = true ∧ nn32 (FP.fadd s.2.1 (FP.fmul (fvS r D) (FP.i2f x))) = true ∧ FI (i + 1) (FP.fadd s.1 (fvS r D), FP.fadd s.2.1 (FP.fmul (fvS r D) (FP.i2f x)), true) := by
  obtain ⟨w1, w2, w3, w4, w5⟩ := w_facts hv hm h0
  obtain ⟨a1, a2, a3, a4, a5⟩ := h
  have hU : (FP.fadd s.1 (fvS r D)).toNat % 2 ^ 31 < (130 + 2 * (i + 1)) * 2 ^ 23 := by
    have := FP.Core.fadd_mag (K := 130 + 2 * i) a1 (Nat.lt_of_lt_of_le w4 (Nat.mul_le_mul_right _ (by omega))) (by omega)
    exact Nat.lt_of_lt_of_le this (Nat.mul_le_mul_right _ (by omega))
  have hW : (FP.fmul (fvS r D) (FP.i2f x)).toNat % 2 ^ 31 < 164 * 2 ^ 23 := by
    have := FP.Core.fmul_mag (a := fvS r D) (b := FP.i2f x) (Ka := 129) (Kb := 160) w4 (FP.Core.i2f_mag x) (by decide) (by decide)
    exact Nat.lt_of_lt_of_le this (by decide)
  have hT : (FP.fadd s.2.1 (FP.fmul (fvS r D) (FP.i2f x))).toNat % 2 ^ 31 < (164 + 2 * (i + 1)) * 2 ^ 23 := by
    have := FP.Core.fadd_mag (K := 164 + 2 * i) a2 (Nat.lt_of_lt_of_le hW (Nat.mul_le_mul_right _ (by omega))) (by omega)
    exact Nat.lt_of_lt_of_le this (Nat.mul_le_mul_right _ (by omega))
  have fU : FP.Core.FFin (FP.fadd s.1 (fvS r D)) := FP.Core.fin_of_lt32 hU (by omega)
  have fs : FP.Core.FFin s.1 := FP.Core.fin_of_lt32 a1 (by omega)
  have fv : FP.Core.FFin (fvS r D) := FP.Core.fin_of_lt32 w4 (by decide)
  have hz : zv (fvS r D) ≤ zv (FP.fadd s.1 (fvS r D)) := zv_add fs fv (fin_n fv) (by omega)
  exact ⟨nn_of fU.notNaN, nn_of (FP.Core.fin_of_lt32 hW (by decide)).notNaN, nn_of (FP.Core.fin_of_lt32 hT (by omega)).notNaN, hU, hT, (by omega : 0 ≤ zv (FP.fadd s.1 (fvS r D))), fun _ => (by omega : 0 < zv (FP.fadd s.1 (fvS r D))), fun q => absurd q (by decide : ¬ true = false)⟩
theorem FI_up {i : Nat} {s : FSt} (h : FI i s) : FI (i + 1) s := ⟨Nat.lt_of_lt_of_le h.1 (Nat.mul_le_mul_right _ (by omega)), Nat.lt_of_lt_of_le h.2.1 (Nat.mul_le_mul_right _ (by omega)), h.2.2⟩
theorem FI_st {r : Row} (hv : VR r) {i : Nat} (hi : i ≤ 4) {s : FSt} (h : FI i s) (e : Int32) {own : UInt32} (ho : own.toNat % 2 ^ 31 < 165 * 2 ^ 23) (x y : Int32) : FI (i + 1) (stF r e own x y s) := by
  unfold stF
  split
  · exact (FI_add hv hi h (by rw [dabs_mag]; exact fD_mag ho) (dabs_nn (fD_fin ho)) _).2.2.2
  · exact FI_up h
/-- the sides, above, right, below, left -/
def fil4 (r : Row) (e x y : Int32) (own : UInt32) : FSt := stF r e own (x - 1) y (stF r e own x (y + 1) (stF r e own (x + 1) y (stF r e own x (y - 1) s0F)))
def filS (r : Row) (e x y : Int32) : Int32 := if (fil4 r e x y (sGlow r (pos (cNo e x y)))).2.2 = true then FP.f2i (FP.fdiv (fil4 r e x y (sGlow r (pos (cNo e x y)))).2.1 (fil4 r e x y (sGlow r (pos (cNo e x y)))).1) else -10001
theorem FI_4 {r : Row} (hv : VR r) (e x y : Int32) {own : UInt32} (ho : own.toNat % 2 ^ 31 < 165 * 2 ^ 23) : FI 4 (fil4 r e x y own) := FI_st hv (by omega) (FI_st hv (by omega) (FI_st hv (by omega) (FI_st hv (by omega) FI_0 e ho _ _) e ho _ _) e ho _ _) e ho _ _
theorem FI_end {s : FSt} (h : FI 4 s) : (s.2.2 = true → nn32 (FP.fdiv s.2.1 s.1) = true ∧ ¬ fcl s.1 FP.fconst0 ≤ 0) ∧ (s.2.2 = false → fcl s.1 FP.fconst0 ≤ 0) := by
  obtain ⟨a1, a2, a3, a4, a5⟩ := h
  have fs : FP.Core.FFin s.1 := FP.Core.fin_of_lt32 a1 (by omega)
  refine ⟨fun q => ⟨nn_of (FP.Core.fdiv_out (FP.Core.fin_of_lt32 a2 (by omega)).notNaN fs (fun z => ?_)), fun z => ?_⟩, fun q => ?_⟩
  · have := a4 q
    rw [show zv s.1 = 0 from z.zval] at this
    omega
  · have h1 := (fcl_0 (fin_n fs) (fin_n fin_0)).mp z
    have h2 := a4 q
    rw [zv_0] at h1
    omega
  · rw [a5 q]
    decide +kernel
