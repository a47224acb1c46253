/-! BITS: what both sides tell of a float and of a double -/
theorem toI32_n (a : UInt32) : a.toInt32 = nI a.toNat := by
  apply Int32.toBitVec_inj.1
  show a.toBitVec = BitVec.ofNat 32 a.toNat
  exact BitVec.eq_of_toNat_eq (by rw [BitVec.toNat_ofNat]; exact (Nat.mod_eq_of_lt a.toBitVec.isLt).symm)
theorem toI64_n (a : UInt64) : a.toInt64 = lN a.toNat := by
  apply Int64.toBitVec_inj.1
  show a.toBitVec = BitVec.ofNat 64 a.toNat
  exact BitVec.eq_of_toNat_eq (by rw [BitVec.toNat_ofNat]; exact (Nat.mod_eq_of_lt a.toBitVec.isLt).symm)
def GF (a : UInt32) : Prop := a.toNat = 0 ∨ (2 ^ 23 ≤ a.toNat % 2 ^ 31 ∧ a.toNat % 2 ^ 31 < 2139095040)
def GD (a : UInt64) : Prop := a.toNat = 0 ∨ (2 ^ 60 ≤ a.toNat ∧ a.toNat < 2 ^ 62 + 2 ^ 61)
theorem GF_fin {a : UInt32} (h : GF a) : FP.Core.FFin a := (FP.Core.fin_bits32 a).mpr (by rcases h with h | h <;> omega)
theorem GD_fin {a : UInt64} (h : GD a) : FP.Core.DFin a := (FP.Core.fin_bits a).mpr (by rcases h with h | h <;> omega)
theorem Nf_pos {a : UInt32} {c : Nat} {q : Int} (h : Nf a c q) : 0 < zv a := by
  have := Nf_z h
  unfold zv
  rw [this]
  have := Nat.mul_pos (Nat.lt_of_lt_of_le (Nat.two_pow_pos 23) h.2.1) (Nat.two_pow_pos (q + 149).toNat)
  omega
theorem fcl_e {a b : UInt32} (ha : FP.Core.val32 a ≠ .nan) (hb : FP.Core.val32 b ≠ .nan) : (fcl a b = 0) ↔ zv a = zv b := by
  unfold fcl
  rw [zv_cmp ha hb]
  rcases Int.lt_trichotomy (zv a) (zv b) with h | h | h
  · rw [Int.compare_eq_lt.mpr h]
    exact ⟨fun q => absurd q (by decide), fun q => by omega⟩
  · rw [Int.compare_eq_eq.mpr h]
    exact ⟨fun _ => h, fun _ => by decide⟩
  · rw [Int.compare_eq_gt.mpr h]
    exact ⟨fun q => absurd q (by decide), fun q => by omega⟩
theorem ofF {a : UInt32} (h : GF a) : f_X0_ofFloat a = some a.toInt32 := by
  have hn := fin_n (GF_fin h)
  rw [toI32_n]
  rcases h with h | ⟨h1, h2⟩
  · have e : a = 0 := UInt32.toNat_inj.mp h
    subst e
    unfold f_X0_ofFloat
    rw [if_pos (by decide +kernel)]
    rfl
  · unfold f_X0_ofFloat
    have ha := a.toNat_lt
    by_cases hs : a.toNat < 2 ^ 31
    · have hN := Nf_of (a := a) (by omega) (by omega)
      have hp := Nf_pos hN
      have hg : 0 ≤ fcg a FP.fconst0 := (fcg_0 hn (fin_n fin_0)).mpr (by rw [zv_0]; omega)
      rw [if_neg (by rw [fcl_e hn (fin_n fin_0), zv_0]; omega), if_pos hg]
      unfold f_X0_ofFloat_b20
      obtain ⟨y, y1, y2⟩ := Nf_loops a hN (by omega)
      rw [show (127 : Int32) = nI 127 from rfl, show (0 : Int32) = nI 0 from rfl, y2]
      unfold f_X0_ofFloat_b80
      rw [if_pos hg, show (0 : Int32) = nI 0 from rfl, Nf_b92 y1 (by omega) (.inl rfl)]
      exact congrArg (fun n => some (nI n)) (by omega)
    · have en := neg_n a
      have nn : FP.Core.val32 (FP.fneg a) ≠ .nan := by rw [en.2]; exact FP.Core.negate_ne_nan hn
      have s1 := FP.Core.sgn_bits32 hn
      have s2 := FP.Core.sgn_bits32 nn
      rw [en.2] at s2
      have s3 : FP.Core.sgn (FP.Core.negate (FP.Core.val32 a)) = !(FP.Core.sgn (FP.Core.val32 a)) := by
        obtain ⟨s, c, q, e⟩ := (FP.Core.fin_bits32 a).mpr h2
        rw [e]
        rfl
      rw [s3, s1, decide_eq_true (show 2 ^ 31 ≤ a.toNat by omega)] at s2
      have s4 : ¬ 2 ^ 31 ≤ (FP.fneg a).toNat := fun z => by rw [decide_eq_true z] at s2; cases s2
      have e1 : (FP.fneg a).toNat = a.toNat - 2 ^ 31 := by omega
      have hN := Nf_of (a := FP.fneg a) (by omega) (by omega)
      have hp := Nf_pos hN
      have hz : zv (FP.fneg a) = - zv a := by unfold zv; rw [en.2, FP.Core.zval_negate]
      have hg : ¬ 0 ≤ fcg a FP.fconst0 := fun z => by
        have := (fcg_0 hn (fin_n fin_0)).mp z
        rw [zv_0] at this
        omega
      rw [if_neg (by rw [fcl_e hn (fin_n fin_0), zv_0]; omega), if_neg hg]
      unfold f_X0_ofFloat_b20
      obtain ⟨y, y1, y2⟩ := Nf_loops a hN (by omega)
      rw [show (127 : Int32) = nI 127 from rfl, show (0 : Int32) = nI 0 from rfl, y2]
      unfold f_X0_ofFloat_b80
      rw [if_neg hg, show (-2147483648 : Int32) = nI (2 ^ 31) from by decide, Nf_b92 y1 (by omega) (.inr rfl)]
      exact congrArg (fun n => some (nI n)) (by omega)
theorem jF {a : UInt32} (h : FP.Core.val32 a ≠ .nan) : f_Jxf58ca_floatToIntBits_5c35a a = some a.toInt32 := by
  unfold f_Jxf58ca_floatToIntBits_5c35a f_Jxf58ca_isNaN_12338 f_Jxf58ca_isNaN_12338_b11
  rw [if_pos ((fcl_e h h).mpr rfl), if_pos (by decide)]
  rfl
theorem dcl_e {a : UInt64} (h : FP.Core.val64 a ≠ .nan) : dcl a a = 0 := by
  unfold dcl
  rw [show FP.dcmp a a = _ from FP.Core.dcmp_self h]
  rfl
theorem jD {a : UInt64} (h : FP.Core.val64 a ≠ .nan) : f_Jxe99ae_doubleToLongBits_ccdee a = some a.toInt64 := by
  unfold f_Jxe99ae_doubleToLongBits_ccdee f_Jxe99ae_isNaN_b9ae7 f_Jxe99ae_isNaN_b9ae7_b11
  rw [if_pos (dcl_e h), if_pos (by decide)]
  rfl
theorem ofD {a : UInt64} (h : GD a) : f_X0_ofDouble a = some a.toInt64 := by
  have hn : FP.Core.val64 a ≠ .nan := by obtain ⟨s, c, q, e⟩ := GD_fin h; rw [e]; exact FP.Core.Datum.noConfusion
  rw [toI64_n]
  rcases h with h | ⟨h1, h2⟩
  · have e : a = 0 := UInt64.toNat_inj.mp h
    subst e
    unfold f_X0_ofDouble
    rw [if_neg (by decide +kernel)]
    rfl
  · unfold f_X0_ofDouble
    have hN := Nd_of (a := a) (by omega) (by omega)
    have hp : 0 < dcg a FP.dconst0 := by
      unfold dcg
      have e0 : FP.Core.val64 FP.dconst0 ≠ .nan := by decide +kernel
      rw [show FP.dcmp a FP.dconst0 = _ from FP.Core.dcmp_zval hn e0, Nd_z hN]
      have z0 : FP.Core.zval FP.Core.b64 (FP.Core.val64 FP.dconst0) = 0 := by decide +kernel
      rw [z0]
      have := Nat.mul_pos (Nat.lt_of_lt_of_le (Nat.two_pow_pos 52) hN.2.1) (Nat.two_pow_pos ((((a.toNat / 2 ^ 52 : Nat) : Int) - 1075) + 1074).toNat)
      rw [Int.compare_eq_gt.mpr (by omega)]
      decide
    rw [if_pos hp]
    obtain ⟨y, y1, y2⟩ := Nd_loops hN (by omega)
    rw [show (1023 : Int64) = lN 1023 from rfl, show (0 : Int32) = nI 0 from rfl, y2, Nd_b87 y1]
    exact congrArg (fun n => some (lN n)) (by omega)
