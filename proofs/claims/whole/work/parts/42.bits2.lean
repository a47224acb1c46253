/-! BITS: the loops -/
theorem nI_m1 {p : Nat} (h : 1 ≤ p) : nI p + (-1) = nI (p - 1) := by
  obtain ⟨m, rfl⟩ : ∃ m, p = m + 1 := ⟨p - 1, by omega⟩
  rw [show nI (m + 1) = nI m + nI 1 from (nI_add m 1).symm, Int32.add_assoc, show nI 1 + (-1 : Int32) = 0 from by decide, Int32.add_zero]
  rfl
theorem lN_p1 (p : Nat) : lN p + 1 = lN (p + 1) := (Int64.ofNat_add p 1).symm
theorem lN_m1 {p : Nat} (h : 1 ≤ p) : lN p - 1 = lN (p - 1) := by
  obtain ⟨m, rfl⟩ : ∃ m, p = m + 1 := ⟨p - 1, by omega⟩
  rw [← lN_p1 m, Int64.add_sub_cancel]
  rfl
theorem Nf_up {c : Nat} (x0 : UInt32) : ∀ (k n p j : Nat) (x1 : UInt32), Nf x1 c (-23 + (k : Int)) → j + k < 1100 → k < n → ∃ y, Nf y c (-23) ∧ f_X0_ofFloat_b26 x0 n x1 (nI p) (nI j) = f_X0_ofFloat_b52 x0 y (nI (p + k)) := by
  intro k
  induction k with
  | zero =>
    intro n p j x1 h hj hn
    obtain ⟨n, rfl⟩ : ∃ m, n = m + 1 := ⟨n - 1, by omega⟩
    refine ⟨x1, by simpa using h, ?_⟩
    rw [f_X0_ofFloat_b26, if_neg (by rw [c_lle (by decide) (by omega)]; omega), if_pos ((Nf_l h).mpr (by omega))]
    rfl
  | succ k ih =>
    intro n p j x1 h hj hn
    obtain ⟨n, rfl⟩ : ∃ m, n = m + 1 := ⟨n - 1, by omega⟩
    have h' := Nf_half h (by omega)
    rw [show -23 + ((k + 1 : Nat) : Int) - 1 = -23 + (k : Int) by omega] at h'
    obtain ⟨y, y1, y2⟩ := ih n (p + 1) (j + 1) _ h' (by omega) (by omega)
    refine ⟨y, y1, ?_⟩
    rw [f_X0_ofFloat_b26, if_neg (by rw [c_lle (by decide) (by omega)]; omega), if_neg (fun z => by have := (Nf_l h).mp z; omega), if_pos (Nf_t (Nf_nn h'))]
    simp only [jlet_eq]
    rw [a_al, a_al, y2]
    rw [show p + 1 + k = p + (k + 1) by omega]
theorem Nf_dn {c : Nat} (x0 : UInt32) : ∀ (k n p j : Nat) (x1 : UInt32), Nf x1 c (-23 - (k : Int)) → j + k < 1100 → k < n → k ≤ p → p < 2 ^ 20 → ∃ y, Nf y c (-23) ∧ f_X0_ofFloat_b54 x0 n x1 (nI p) (nI j) = f_X0_ofFloat_b80 x0 y (nI (p - k)) := by
  intro k
  induction k with
  | zero =>
    intro n p j x1 h hj hn hp hp2
    obtain ⟨n, rfl⟩ : ∃ m, n = m + 1 := ⟨n - 1, by omega⟩
    refine ⟨x1, by simpa using h, ?_⟩
    rw [f_X0_ofFloat_b54, if_neg (by rw [c_lle (by decide) (by omega)]; omega), if_pos ((Nf_g h).mpr (by omega))]
    rfl
  | succ k ih =>
    intro n p j x1 h hj hn hp hp2
    obtain ⟨n, rfl⟩ : ∃ m, n = m + 1 := ⟨n - 1, by omega⟩
    have h' := Nf_dbl h (by omega)
    rw [show -23 - ((k + 1 : Nat) : Int) + 1 = -23 - (k : Int) by omega] at h'
    obtain ⟨y, y1, y2⟩ := ih n (p - 1) (j + 1) _ h' (by omega) (by omega) (by omega) (by omega)
    refine ⟨y, y1, ?_⟩
    rw [f_X0_ofFloat_b54, if_neg (by rw [c_lle (by decide) (by omega)]; omega), if_neg (fun z => by have := (Nf_g h).mp z; omega), if_pos (Nf_t (Nf_nn h'))]
    simp only [jlet_eq]
    rw [a_al, nI_m1 (by omega), y2]
    rw [show p - 1 - k = p - (k + 1) by omega]
theorem Nf_stay {c : Nat} {q : Int} (x0 : UInt32) {x1 : UInt32} (p n : Nat) (h : Nf x1 c q) (hq : q < -22) : f_X0_ofFloat_b26 x0 (n + 1) x1 (nI p) (nI 0) = f_X0_ofFloat_b52 x0 x1 (nI p) := by
  rw [f_X0_ofFloat_b26, if_neg (by decide), if_pos ((Nf_l h).mpr hq)]
theorem Nf_loops {c : Nat} {q : Int} (x0 : UInt32) {x1 : UInt32} (h : Nf x1 c q) (hq : -1070 ≤ q ∧ q ≤ 970) : ∃ y, Nf y c (-23) ∧ f_X0_ofFloat_b26 x0 FUEL x1 (nI 127) (nI 0) = f_X0_ofFloat_b80 x0 y (nI (q + 150).toNat) := by
  have hb := h.2.2.2
  by_cases z : -23 ≤ q
  · obtain ⟨y, y1, y2⟩ := Nf_up x0 (q + 23).toNat FUEL 127 0 x1 (by rw [show -23 + ((q + 23).toNat : Int) = q by omega]; exact h) (by omega) (by unfold FUEL; omega)
    obtain ⟨y', y3, y4⟩ := Nf_dn x0 0 FUEL (127 + (q + 23).toNat) 0 y (by simpa using y1) (by omega) (by unfold FUEL; omega) (by omega) (by omega)
    refine ⟨y', y3, ?_⟩
    rw [y2]
    show f_X0_ofFloat_b54 x0 FUEL y _ (nI 0) = _
    rw [y4]
    congr 2
    omega
  · obtain ⟨y', y3, y4⟩ := Nf_dn x0 (-23 - q).toNat FUEL 127 0 x1 (by rw [show -23 - ((-23 - q).toNat : Int) = q by omega]; exact h) (by omega) (by unfold FUEL; omega) (by omega) (by decide)
    refine ⟨y', y3, ?_⟩
    rw [show (FUEL : Nat) = (FUEL - 1) + 1 from rfl, Nf_stay x0 _ _ h (by omega)]
    show f_X0_ofFloat_b54 x0 FUEL x1 _ (nI 0) = _
    rw [y4]
    congr 2
    omega
theorem Nd_up {c : Nat} : ∀ (k n p j : Nat) (x1 : UInt64), Nd x1 c (-52 + (k : Int)) → j + k < 1100 → k < n → ∃ y, Nd y c (-52) ∧ f_X0_ofDouble_b18 n x1 (lN p) (nI j) = f_X0_ofDouble_b52 y (lN (p + k)) := by
  intro k
  induction k with
  | zero =>
    intro n p j x1 h hj hn
    obtain ⟨n, rfl⟩ : ∃ m, n = m + 1 := ⟨n - 1, by omega⟩
    refine ⟨x1, by simpa using h, ?_⟩
    rw [f_X0_ofDouble_b18, if_neg (by rw [c_lle (by decide) (by omega)]; omega), if_pos ((Nd_l h).mpr (by omega))]
    rfl
  | succ k ih =>
    intro n p j x1 h hj hn
    obtain ⟨n, rfl⟩ : ∃ m, n = m + 1 := ⟨n - 1, by omega⟩
    have h' := Nd_half h (by omega)
    rw [show -52 + ((k + 1 : Nat) : Int) - 1 = -52 + (k : Int) by omega] at h'
    obtain ⟨y, y1, y2⟩ := ih n (p + 1) (j + 1) _ h' (by omega) (by omega)
    refine ⟨y, y1, ?_⟩
    rw [f_X0_ofDouble_b18, if_neg (by rw [c_lle (by decide) (by omega)]; omega), if_neg (fun z => by have := (Nd_l h).mp z; omega), if_pos (Nd_t (Nd_nn h'))]
    simp only [jlet_eq]
    rw [a_al, lN_p1, y2]
    rw [show p + 1 + k = p + (k + 1) by omega]
theorem Nd_dn {c : Nat} : ∀ (k n p j : Nat) (x1 : UInt64), Nd x1 c (-52 - (k : Int)) → j + k < 1100 → k < n → k ≤ p → p < 2 ^ 20 → ∃ y, Nd y c (-52) ∧ f_X0_ofDouble_b55 n x1 (lN p) (nI j) = f_X0_ofDouble_b87 y (lN (p - k)) := by
  intro k
  induction k with
  | zero =>
    intro n p j x1 h hj hn hp hp2
    obtain ⟨n, rfl⟩ : ∃ m, n = m + 1 := ⟨n - 1, by omega⟩
    refine ⟨x1, by simpa using h, ?_⟩
    rw [f_X0_ofDouble_b55, if_neg (by rw [c_lle (by decide) (by omega)]; omega), if_pos ((Nd_g h).mpr (by omega))]
    rfl
  | succ k ih =>
    intro n p j x1 h hj hn hp hp2
    obtain ⟨n, rfl⟩ : ∃ m, n = m + 1 := ⟨n - 1, by omega⟩
    have h' := Nd_dbl h (by omega)
    rw [show -52 - ((k + 1 : Nat) : Int) + 1 = -52 - (k : Int) by omega] at h'
    obtain ⟨y, y1, y2⟩ := ih n (p - 1) (j + 1) _ h' (by omega) (by omega) (by omega) (by omega)
    refine ⟨y, y1, ?_⟩
    rw [f_X0_ofDouble_b55, if_neg (by rw [c_lle (by decide) (by omega)]; omega), if_neg (fun z => by have := (Nd_g h).mp z; omega), if_pos (Nd_t (Nd_nn h'))]
    simp only [jlet_eq]
    rw [a_al, lN_m1 (by omega), y2]
    rw [show p - 1 - k = p - (k + 1) by omega]
theorem Nd_stay {c : Nat} {q : Int} {x1 : UInt64} (p n : Nat) (h : Nd x1 c q) (hq : q < -51) : f_X0_ofDouble_b18 (n + 1) x1 (lN p) (nI 0) = f_X0_ofDouble_b52 x1 (lN p) := by
  rw [f_X0_ofDouble_b18, if_neg (by decide), if_pos ((Nd_l h).mpr hq)]
theorem Nd_loops {c : Nat} {q : Int} {x1 : UInt64} (h : Nd x1 c q) (hq : -1070 ≤ q ∧ q ≤ 970) : ∃ y, Nd y c (-52) ∧ f_X0_ofDouble_b18 FUEL x1 (lN 1023) (nI 0) = f_X0_ofDouble_b87 y (lN (q + 1075).toNat) := by
  have hb := h.2.2.2
  by_cases z : -52 ≤ q
  · obtain ⟨y, y1, y2⟩ := Nd_up (q + 52).toNat FUEL 1023 0 x1 (by rw [show -52 + ((q + 52).toNat : Int) = q by omega]; exact h) (by omega) (by unfold FUEL; omega)
    obtain ⟨y', y3, y4⟩ := Nd_dn 0 FUEL (1023 + (q + 52).toNat) 0 y (by simpa using y1) (by omega) (by unfold FUEL; omega) (by omega) (by omega)
    refine ⟨y', y3, ?_⟩
    rw [y2]
    show f_X0_ofDouble_b55 FUEL y _ (nI 0) = _
    rw [y4]
    congr 2
    omega
  · obtain ⟨y', y3, y4⟩ := Nd_dn (-52 - q).toNat FUEL 1023 0 x1 (by rw [show -52 - ((-52 - q).toNat : Int) = q by omega]; exact h) (by omega) (by unfold FUEL; omega) (by omega) (by decide)
    refine ⟨y', y3, ?_⟩
    rw [show (FUEL : Nat) = (FUEL - 1) + 1 from rfl, Nd_stay  _ _ h (by omega)]
    show f_X0_ofDouble_b55 FUEL x1 _ (nI 0) = _
    rw [y4]
    congr 2
    omega
/-! words of bits -/
theorem or32 (a b : Nat) : nI a ||| nI b = nI (a ||| b) := by
  apply Int32.toBitVec_inj.1
  show BitVec.ofNat 32 a ||| BitVec.ofNat 32 b = BitVec.ofNat 32 (a ||| b)
  apply BitVec.eq_of_getLsbD_eq
  intro i hi
  simp [hi]
theorem or32_s {a k : Nat} (b : Nat) (h : a < 2 ^ k) : nI (b * 2 ^ k) ||| nI a = nI (b * 2 ^ k + a) := by rw [or32, Nat.mul_comm, Nat.two_pow_add_eq_or_of_lt h]
theorem sh32 {n : Nat} (h : n < 2 ^ 9) : nI n <<< ((23 : Int32) &&& 31) = nI (n * 2 ^ 23) := pk_shlN _ 23 (by decide) (by omega)
theorem or64 (a b : Nat) : lN a ||| lN b = lN (a ||| b) := by
  apply Int64.toBitVec_inj.1
  show BitVec.ofNat 64 a ||| BitVec.ofNat 64 b = BitVec.ofNat 64 (a ||| b)
  apply BitVec.eq_of_getLsbD_eq
  intro i hi
  simp [hi]
theorem or64_s {a k : Nat} (b : Nat) (h : a < 2 ^ k) : lN (b * 2 ^ k) ||| lN a = lN (b * 2 ^ k + a) := by rw [or64, Nat.mul_comm, Nat.two_pow_add_eq_or_of_lt h]
theorem sh64 (n : Nat) : lN n <<< (((52 : Int32)).toInt64 &&& 63) = lN (n * 2 ^ 52) := by
  rw [show ((52 : Int32)).toInt64 &&& 63 = lN 52 from by decide]
  apply Int64.toBitVec_inj.1
  rw [Int64.toBitVec_shiftLeft, show (lN n).toBitVec = BitVec.ofNat 64 n from rfl, show (lN (n * 2 ^ 52)).toBitVec = BitVec.ofNat 64 (n * 2 ^ 52) from rfl, show (lN 52).toBitVec.smod 64 = BitVec.ofNat 64 52 from by decide]
  apply BitVec.eq_of_toNat_eq
  rw [BitVec.shiftLeft_eq', BitVec.toNat_shiftLeft, BitVec.toNat_ofNat, BitVec.toNat_ofNat, BitVec.toNat_ofNat, Nat.mod_eq_of_lt (show 52 < 2 ^ 64 by omega), Nat.shiftLeft_eq, Nat.mul_mod, Nat.mod_mod, ← Nat.mul_mod]
theorem Nf_b92 {c : Nat} {y : UInt32} (h : Nf y c (-23)) {E s : Nat} (hE : E < 2 ^ 8) (hs : s = 0 ∨ s = 2 ^ 31) : f_X0_ofFloat_b92 y (nI E) (nI s) = some (nI (s + (E * 2 ^ 23 + (c - 2 ^ 23)))) := by
  obtain ⟨n1, n2⟩ := Nf_end h
  obtain ⟨_, h1, h2, _⟩ := h
  have n3 : FP.Core.val32 (FP.fmul (FP.fsub y FP.fconst1) (1258291200 : UInt32)) ≠ .nan := by
    intro q
    unfold FP.Core.FInt at n2
    rw [q] at n2
    exact n2
  have e : FP.f2i (FP.fmul (FP.fsub y FP.fconst1) (1258291200 : UInt32)) = nI (c - 2 ^ 23) := by
    refine FP.Core.f2i_int ?_
    rw [toI_n (by omega)]
    rw [show ((c - 2 ^ 23 : Nat) : Int) = (c : Int) - 2 ^ 23 from by omega]
    exact n2
  unfold f_X0_ofFloat_b92
  rw [if_pos (Nf_t n1), if_pos (Nf_t n3), e, sh32 (by omega)]
  have e2 : nI s ||| nI (E * 2 ^ 23) = nI (s + E * 2 ^ 23) := by
    rcases hs with rfl | rfl
    · rw [or32]; congr 1; simp
    · have := or32_s (k := 31) (a := E * 2 ^ 23) 1 (by omega)
      rw [Nat.one_mul] at this
      exact this
  rw [e2]
  have e3 : s + E * 2 ^ 23 = (s / 2 ^ 23 + E) * 2 ^ 23 := by rcases hs with rfl | rfl <;> omega
  rw [e3, or32_s _ (by omega), ← e3, Nat.add_assoc]
theorem Nd_b87 {c : Nat} {y : UInt64} (h : Nd y c (-52)) (E : Nat) : f_X0_ofDouble_b87 y (lN E) = some (lN (E * 2 ^ 52 + (c - 2 ^ 52))) := by
  obtain ⟨n1, n2⟩ := Nd_end h
  obtain ⟨_, h1, h2, _⟩ := h
  have n3 : FP.Core.val64 (FP.dmul (FP.dsub y FP.dconst1) (4841369599423283200 : UInt64)) ≠ .nan := by
    intro q
    unfold FP.Core.DInt at n2
    rw [q] at n2
    exact n2
  have e : FP.d2l (FP.dmul (FP.dsub y FP.dconst1) (4841369599423283200 : UInt64)) = lN (c - 2 ^ 52) := by
    refine FP.Core.d2l_int ?_
    rw [show (lN (c - 2 ^ 52)).toInt = ((c - 2 ^ 52 : Nat) : Int) from Int64.toInt_ofNat_of_lt (by omega)]
    rw [show ((c - 2 ^ 52 : Nat) : Int) = (c : Int) - 2 ^ 52 from by omega]
    exact n2
  unfold f_X0_ofDouble_b87
  rw [if_pos (Nd_t n1), if_pos (Nd_t n3), e, sh64, or64_s _ (by omega)]
/-- the bits of a number that is not subnormal -/
theorem Nf_of {a : UInt32} (h1 : 2 ^ 23 ≤ a.toNat) (h2 : a.toNat < 2139095040) : Nf a (2 ^ 23 + a.toNat % 2 ^ 23) (((a.toNat / 2 ^ 23 : Nat) : Int) - 150) := by
  have e4 : FP.Core.b32.tails = 2 ^ 23 := by decide +kernel
  have e5 : FP.Core.b32.exps = 256 := by decide +kernel
  have e2 : FP.Core.b32.qmin = -149 := by decide +kernel
  refine ⟨?_, by omega, by omega, by omega, by omega⟩
  show FP.Core.decode FP.Core.b32 a.toNat = _
  unfold FP.Core.decode FP.Core.fieldE FP.Core.fieldT FP.Core.fieldS
  rw [e4, e5, e2, Nat.mod_eq_of_lt (show a.toNat / 2 ^ 23 < 256 by omega), if_neg (by omega), if_neg (by omega)]
  have : (a.toNat / 2 ^ 23 / 256 % 2 == 1) = false := beq_eq_false_iff_ne.mpr (by omega)
  rw [this]
  congr 1
  omega
theorem Nd_of {a : UInt64} (h1 : 2 ^ 52 ≤ a.toNat) (h2 : a.toNat < 9218868437227405312) : Nd a (2 ^ 52 + a.toNat % 2 ^ 52) (((a.toNat / 2 ^ 52 : Nat) : Int) - 1075) := by
  have e4 : FP.Core.b64.tails = 2 ^ 52 := by decide +kernel
  have e5 : FP.Core.b64.exps = 2048 := by decide +kernel
  have e2 : FP.Core.b64.qmin = -1074 := by decide +kernel
  refine ⟨?_, by omega, by omega, by omega, by omega⟩
  show FP.Core.decode FP.Core.b64 a.toNat = _
  unfold FP.Core.decode FP.Core.fieldE FP.Core.fieldT FP.Core.fieldS
  rw [e4, e5, e2, Nat.mod_eq_of_lt (show a.toNat / 2 ^ 52 < 2048 by omega), if_neg (by omega), if_neg (by omega)]
  have : (a.toNat / 2 ^ 52 / 2048 % 2 == 1) = false := beq_eq_false_iff_ne.mpr (by omega)
  rw [this]
  congr 1
  omega
