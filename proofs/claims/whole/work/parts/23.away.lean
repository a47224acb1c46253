/-! REMAINDERS AND AWAY -/
theorem toI_n {n : Nat} (h : n < 2 ^ 31) : (nI n).toInt = (n : Int) := nI_toInt h
theorem rng (x : Int32) : -2147483648 ≤ x.toInt ∧ x.toInt ≤ 2147483647 := by
  have h1 := x.minValue_le_toInt
  have h2 := x.toInt_le
  have e1 : Int32.minValue.toInt = -2147483648 := by decide
  have e2 : Int32.maxValue.toInt = 2147483647 := by decide
  omega
theorem toI_add {x y : Int32} (h1 : -2147483648 ≤ x.toInt + y.toInt) (h2 : x.toInt + y.toInt ≤ 2147483647) : (x + y).toInt = x.toInt + y.toInt := by
  rw [Int32.toInt_add]; exact Int.bmod_eq_of_le (by omega) (by omega)
theorem toI_sub {x y : Int32} (h1 : -2147483648 ≤ x.toInt - y.toInt) (h2 : x.toInt - y.toInt ≤ 2147483647) : (x - y).toInt = x.toInt - y.toInt := by
  rw [Int32.toInt_sub]; exact Int.bmod_eq_of_le (by omega) (by omega)
theorem toI_mul {x y : Int32} (h1 : -2147483648 ≤ x.toInt * y.toInt) (h2 : x.toInt * y.toInt ≤ 2147483647) : (x * y).toInt = x.toInt * y.toInt := by
  rw [Int32.toInt_mul]; exact Int.bmod_eq_of_le (by omega) (by omega)
theorem jrem_toInt {x y : Int32} (hy : 0 < y.toInt) : (jrem x y).toInt = x.toInt.tmod y.toInt := by
  have hx := rng x
  have hy2 := rng y
  have hd : (x / y).toInt = x.toInt.tdiv y.toInt := by
    rw [Int32.toInt_div]
    have h1 : (x.toInt.tdiv y.toInt).natAbs ≤ x.toInt.natAbs := by
      rw [Int.natAbs_tdiv]; exact Nat.div_le_self _ _
    have h2 : x.toInt.tdiv y.toInt ≤ 2147483647 := by
      by_cases h : x.toInt.natAbs ≤ 2147483647
      · omega
      · have : x.toInt < 0 := by omega
        have h3 : x.toInt.tdiv y.toInt ≤ 0 := by
          have h4 : (-x.toInt).tdiv y.toInt = -(x.toInt.tdiv y.toInt) := Int.neg_tdiv ..
          have h5 : 0 ≤ (-x.toInt).tdiv y.toInt := Int.tdiv_nonneg (by omega) (by omega)
          omega
        omega
    exact Int.bmod_eq_of_le (by omega) (by omega)
  have hm := Int.tmod_add_mul_tdiv x.toInt y.toInt
  have hq : x.toInt.tdiv y.toInt * y.toInt = x.toInt - x.toInt.tmod y.toInt := by
    rw [Int.mul_comm]; omega
  have hb : (x.toInt.tmod y.toInt).natAbs ≤ x.toInt.natAbs := by
    rw [Int.natAbs_tmod]; exact Nat.mod_le _ _
  have hs : (0 ≤ x.toInt → 0 ≤ x.toInt.tmod y.toInt) ∧ (x.toInt ≤ 0 → x.toInt.tmod y.toInt ≤ 0) := by
    refine ⟨fun h => Int.tmod_nonneg _ h, fun h => ?_⟩
    have h1 : 0 ≤ (-x.toInt).tmod y.toInt := Int.tmod_nonneg _ (by omega)
    rw [Int.neg_tmod] at h1
    omega
  have hmul : (x / y * y).toInt = x.toInt - x.toInt.tmod y.toInt := by
    rw [toI_mul (by rw [hd, hq]; omega) (by rw [hd, hq]; omega), hd, hq]
  unfold jrem
  rw [toI_sub (by rw [hmul]; omega) (by rw [hmul]; omega), hmul]
  omega
theorem jrem_lt {x : Int32} {n : Nat} (h0 : 0 < n) (hn : n < 2 ^ 31) : -(n : Int) < (jrem x (nI n)).toInt ∧ (jrem x (nI n)).toInt < n := by
  rw [jrem_toInt (by rw [toI_n hn]; omega), toI_n hn]
  refine ⟨?_, Int.tmod_lt_of_pos _ (by omega)⟩
  have h := Int.natAbs_tmod x.toInt (n : Int)
  have h2 : x.toInt.natAbs % (n : Int).natAbs < (n : Int).natAbs := Nat.mod_lt _ (by omega)
  omega
/-- the residue of a distance against a wave, as a number -/
def ovN (d : Nat) (r : Int32) (n : Nat) : Nat := (((d : Int) - r.toInt) % (n : Int)).toNat
theorem ovN_lt {d : Nat} {r : Int32} {n : Nat} (h0 : 0 < n) : ovN d r n < n := by
  have h1 := Int.emod_nonneg ((d : Int) - r.toInt) (b := (n : Int)) (by omega)
  have h2 := Int.emod_lt_of_pos ((d : Int) - r.toInt) (b := (n : Int)) (by omega)
  unfold ovN; omega
theorem ovN_cast {d : Nat} {r : Int32} {n : Nat} (h0 : 0 < n) : (ovN d r n : Int) = ((d : Int) - r.toInt) % (n : Int) := by
  have h1 := Int.emod_nonneg ((d : Int) - r.toInt) (b := (n : Int)) (by omega)
  unfold ovN; omega
theorem eq_n {x : Int32} {n : Nat} (h : n < 2 ^ 31) (hx : x.toInt = (n : Int)) : x = nI n := Int32.toInt_inj.mp (by rw [hx, toI_n h])
theorem ov_comp {d n : Nat} {r : Int32} (hd : d ≤ 20000) (h0 : 0 < n) (hn : n ≤ 2000) (hr : -(n : Int) < r.toInt ∧ r.toInt < n) : jrem ((nI d - r) + nI n) (nI n) = nI (ovN d r n) := by
  have hov := ovN_lt (d := d) (r := r) h0
  have e1 : (nI d - r).toInt = (d : Int) - r.toInt := by rw [toI_sub (by rw [toI_n (by omega)]; omega) (by rw [toI_n (by omega)]; omega), toI_n (by omega)]
  have e2 : ((nI d - r) + nI n).toInt = (d : Int) - r.toInt + n := by rw [toI_add (by rw [e1, toI_n (by omega)]; omega) (by rw [e1, toI_n (by omega)]; omega), e1, toI_n (by omega)]
  refine eq_n (by omega) ?_
  rw [jrem_toInt (by rw [toI_n (by omega)]; omega), e2, toI_n (by omega), Int.tmod_eq_emod_of_nonneg (by omega), ovN_cast h0, Int.add_emod_right]
theorem ov_mod {d n : Nat} {r : Int32} (hd : d ≤ 20000) (h0 : 0 < n) (hn : n ≤ 2000) (hr : -(n : Int) < r.toInt ∧ r.toInt < n) : (if 0 ≤ jrem (nI d - r) (nI n) then jrem (nI d - r) (nI n) else jrem (nI d - r) (nI n) + nI n) = nI (ovN d r n) := by
  have hov := ovN_lt (d := d) (r := r) h0
  have e1 : (nI d - r).toInt = (d : Int) - r.toInt := by rw [toI_sub (by rw [toI_n (by omega)]; omega) (by rw [toI_n (by omega)]; omega), toI_n (by omega)]
  have e3 : (jrem (nI d - r) (nI n)).toInt = ((d : Int) - r.toInt).tmod n := by rw [jrem_toInt (by rw [toI_n (by omega)]; omega), e1, toI_n (by omega)]
  have hc := ovN_cast (d := d) (r := r) h0
  by_cases hp : 0 ≤ (d : Int) - r.toInt
  · have h4 : 0 ≤ ((d : Int) - r.toInt).tmod n := Int.tmod_nonneg _ hp
    rw [if_pos (Int32.le_iff_toInt_le.mpr (by rw [e3]; exact h4))]
    refine eq_n (by omega) ?_
    rw [e3, hc, Int.tmod_eq_emod_of_nonneg hp]
  · have h5 : ((d : Int) - r.toInt).tmod n = (d : Int) - r.toInt := by
      have h6 : (-((d : Int) - r.toInt)).tmod n = -((d : Int) - r.toInt) := Int.tmod_eq_of_lt (by omega) (by omega)
      rw [Int.neg_tmod] at h6
      omega
    have h7 : ((d : Int) - r.toInt) % n = (d : Int) - r.toInt + n := by
      rw [← Int.add_emod_right, Int.emod_eq_of_lt (by omega) (by omega)]
    rw [if_neg (fun q => by have := Int32.le_iff_toInt_le.mp q; rw [e3, h5] at this; have e0 : (0 : Int32).toInt = 0 := rfl; omega)]
    refine eq_n (by omega) ?_
    rw [toI_add (by rw [e3, h5, toI_n (by omega)]; omega) (by rw [e3, h5, toI_n (by omega)]; omega), e3, h5, toI_n (by omega), hc, h7]
def awN (d : Nat) (r : Int32) (n : Nat) : Nat := if n - ovN d r n < ovN d r n then n - ovN d r n else ovN d r n
theorem awN_lt {d : Nat} {r : Int32} {n : Nat} (h0 : 0 < n) : awN d r n < n := by
  have := ovN_lt (d := d) (r := r) h0
  unfold awN; split <;> omega
theorem c_away {d n : Nat} {r : Int32} (hd : d ≤ 20000) (h0 : 0 < n) (hn : n ≤ 2000) (hr : -(n : Int) < r.toInt ∧ r.toInt < n) : f_X3_awayFrom (nI d) r (nI n) = some (nI (awN d r n)) := by
  have hov := ovN_lt (d := d) (r := r) h0
  unfold f_X3_awayFrom f_X3_awayFrom_b29
  rw [if_pos ((c_lle (by omega) (by omega)).mpr (by omega)), if_pos (fun q => by have := (c_eql (by omega) (by omega)).mp q; omega)]
  simp only [jlet_eq]
  rw [ov_comp hd h0 hn hr, pk_sub (by omega)]
  unfold awN
  by_cases h : n - ovN d r n < ovN d r n
  · rw [if_pos ((c_lt (by omega) (by omega)).mpr h), if_pos h]
  · rw [if_neg (fun q => h ((c_lt (by omega) (by omega)).mp q)), if_neg h]
theorem m_awayN {d n : Nat} {r : Int32} (hd : d ≤ 20000) (h0 : 0 < n) (hn : n ≤ 2000) (hr : -(n : Int) < r.toInt ∧ r.toInt < n) : f_X6_awayOf (nI d) r (nI n) = some (nI (awN d r n)) := by
  have hov := ovN_lt (d := d) (r := r) h0
  rw [m_away (fun q => by have := (c_eql (by omega) (by omega)).mp q; omega), ov_mod hd h0 hn hr, pk_sub (by omega)]
  unfold awN
  by_cases h : n - ovN d r n ≤ ovN d r n
  · rw [if_pos ((c_le (by omega) (by omega)).mpr h)]
    split
    · rfl
    · congr 2; omega
  · rw [if_neg (fun q => h ((c_le (by omega) (by omega)).mp q)), if_neg (by omega)]
def gapN (d : Nat) (r : Int32) (n z : Nat) : Nat := if ovN d r n ≤ z then 0 else if ovN d r n + z ≤ n then n - z - ovN d r n else 0
theorem c_gap {d n z : Nat} {r : Int32} (hd : d ≤ 20000) (h0 : 0 < n) (hn : n ≤ 2000) (hz : z ≤ 50) (hr : -(n : Int) < r.toInt ∧ r.toInt < n) : f_X3_gap (nI d) r (nI n) (nI z) = some (nI (gapN d r n z)) := by
  have hov := ovN_lt (d := d) (r := r) h0
  unfold f_X3_gap f_X3_gap_b35 f_X3_gap_b41
  rw [if_pos ((c_lle (by omega) (by omega)).mpr (by omega)), if_pos (fun q => by have := (c_eql (by omega) (by omega)).mp q; omega)]
  simp only [jlet_eq]
  rw [ov_comp hd h0 hn hr]
  unfold gapN
  have e : ((nI n - nI z) - nI (ovN d r n)).toInt = (n : Int) - z - ovN d r n := by
    have e1 : (nI n - nI z).toInt = (n : Int) - z := by rw [toI_sub (by rw [toI_n (by omega), toI_n (by omega)]; omega) (by rw [toI_n (by omega), toI_n (by omega)]; omega), toI_n (by omega), toI_n (by omega)]
    rw [toI_sub (by rw [e1, toI_n (by omega)]; omega) (by rw [e1, toI_n (by omega)]; omega), e1, toI_n (by omega)]
  by_cases h : ovN d r n ≤ z
  · rw [if_pos ((c_le (by omega) (by omega)).mpr h), if_pos h]; rfl
  · rw [if_neg (fun q => h ((c_le (by omega) (by omega)).mp q)), if_neg h]
    have e0 : (0 : Int32).toInt = 0 := rfl
    by_cases h2 : ovN d r n + z ≤ n
    · rw [if_pos (Int32.le_iff_toInt_le.mpr (by rw [e, e0]; omega)), if_pos h2]
      congr 1
      exact eq_n (by omega) (by rw [e]; omega)
    · rw [if_neg (fun q => by have := Int32.le_iff_toInt_le.mp q; rw [e, e0] at this; omega), if_neg h2]; rfl
/-- a distance fits a rate: no gap; a gap: none fits within it -/
theorem gap_fit {d n z : Nat} {r : Int32} (h0 : 0 < n) : gapN d r n z = 0 ↔ awN d r n ≤ z := by
  have hov := ovN_lt (d := d) (r := r) h0
  unfold gapN awN
  split
  · split <;> omega
  · split
    · split <;> omega
    · split <;> omega
theorem ov_step {d n j : Nat} {r : Int32} (h0 : 0 < n) (h : ovN d r n + j < n) : ovN (d + j) r n = ovN d r n + j := by
  have h1 := ovN_cast (d := d) (r := r) h0
  have h2 := ovN_cast (d := d + j) (r := r) h0
  have h3 : ((d + j : Nat) : Int) - r.toInt = ((d : Int) - r.toInt) + j := by omega
  have h4 : (((d : Int) - r.toInt) + j) % (n : Int) = (((d : Int) - r.toInt) % n + j) % n := by rw [Int.emod_add_emod]
  rw [h3, h4, ← h1, Int.emod_eq_of_lt (by omega) (by omega)] at h2
  omega
theorem gap_none {d n z j : Nat} {r : Int32} (h0 : 0 < n) (hj : j < gapN d r n z) : ¬ awN (d + j) r n ≤ z := by
  have hov := ovN_lt (d := d) (r := r) h0
  unfold gapN at hj
  split at hj
  · omega
  · split at hj
    · have := ov_step (d := d) (r := r) (j := j) h0 (by omega)
      unfold awN
      rw [this]
      split <;> omega
    · omega
