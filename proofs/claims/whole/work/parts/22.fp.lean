/-! FLOATS THAT ARE NUMBERS -/
theorem nn_of {a : UInt32} (h : FP.Core.fIsNaN a = false) : nn32 a = true := by
  unfold nn32
  simp only [decide_eq_true_eq]
  have h1 : ¬ (2139095040 < a.toNat % 2 ^ 31) := fun q => by rw [(FP.Core.isNaN_bits32 a).mpr q] at h; cases h
  rw [UInt32.le_iff_toNat_le, UInt32.toNat_and]
  show a.toNat &&& 2147483647 ≤ 2139095040
  rw [show (2147483647 : Nat) = 2 ^ 31 - 1 by decide, Nat.and_two_pow_sub_one_eq_mod]
  omega
theorem fin_0 : FP.Core.FFin FP.fconst0 := by rw [FP.Core.fin_bits32]; decide
theorem fin_1 : FP.Core.FFin FP.fconst1 := by rw [FP.Core.fin_bits32]; decide
theorem fin_2 : FP.Core.FFin FP.fconst2 := by rw [FP.Core.fin_bits32]; decide
theorem fin_3 : FP.Core.FFin 1077936128 := by rw [FP.Core.fin_bits32]; decide
theorem fin_4 : FP.Core.FFin 1082130432 := by rw [FP.Core.fin_bits32]; decide
theorem fin_h : FP.Core.FFin 1056964608 := by rw [FP.Core.fin_bits32]; decide
theorem nz_1 : ¬ FP.Core.FZero FP.fconst1 := by rw [FP.Core.zero_bits232]; decide
theorem nz_2 : ¬ FP.Core.FZero FP.fconst2 := by rw [FP.Core.zero_bits232]; decide
theorem nz_4 : ¬ FP.Core.FZero 1082130432 := by rw [FP.Core.zero_bits232]; decide
theorem nz_i {x : Int32} (h : x ≠ 0) : ¬ FP.Core.FZero (FP.i2f x) := by rw [FP.Core.zero_bits232]; exact FP.Core.i2f_ne_zero h
theorem fin_i (x : Int32) : FP.Core.FFin (FP.i2f x) := FP.Core.i2f_fin x
theorem nan_i (x : Int32) : FP.Core.fIsNaN (FP.i2f x) = false := (fin_i x).notNaN
theorem nn_half (x : Int32) : nn32 (FP.fdiv (FP.i2f x) FP.fconst2) = true := nn_of (FP.Core.fdiv_out (nan_i x) fin_2 nz_2)
theorem nn_str (r : Row) (p : Nat) : nn32 (sStr r p) = true := nn_half _
theorem nan_Q {x y : Int32} (h : ¬ ab x + ab y = 0) : FP.Core.fIsNaN (sQ x y) = false := FP.Core.fdiv_out (nan_i y) (fin_i _) (nz_i h)
theorem nan_4Q {x y : Int32} (h : ¬ ab x + ab y = 0) : FP.Core.fIsNaN (FP.fadd 1082130432 (sQ x y)) = false := FP.Core.fadd_out' fin_4 (nan_Q h)
theorem nan_2Q {x y : Int32} (h : ¬ ab x + ab y = 0) : FP.Core.fIsNaN (FP.fsub FP.fconst2 (sQ x y)) = false := FP.Core.fsub_out' fin_2 (nan_Q h)
theorem nan_Ph (x y : Int32) : FP.Core.fIsNaN (sPh x y) = false := by
  unfold sPh
  split
  · rw [FP.Core.notNaN_iff32, FP.Core.ne_nan32]; decide
  · rename_i h
    split
    · split
      · exact nan_4Q h
      · exact nan_Q h
    · exact nan_2Q h
theorem nan_Pw (x y : Int32) {wv : Int32} (h : ¬ wv = 0) : FP.Core.fIsNaN (sPw x y wv) = false := FP.Core.fmul_out' (nan_Ph x y) (fin_i wv) (nz_i h)
theorem nan_P4 (x y : Int32) {wv : Int32} (h : ¬ wv = 0) : FP.Core.fIsNaN (FP.fdiv (sPw x y wv) 1082130432) = false := FP.Core.fdiv_out (nan_Pw x y h) fin_4 nz_4
theorem nan_Ph5 (x y : Int32) {wv : Int32} (h : ¬ wv = 0) : FP.Core.fIsNaN (FP.fadd (FP.fdiv (sPw x y wv) 1082130432) 1056964608) = false := FP.Core.fadd_out (nan_P4 x y h) fin_h
theorem mag_half (x : Int32) : (FP.fdiv (FP.i2f x) FP.fconst2).toNat % 2 ^ 31 < 161 * 2 ^ 23 := by
  have := FP.Core.fdiv_mag (a := FP.i2f x) (b := FP.fconst2) (K := 160) (L := 128) (FP.Core.i2f_mag x) (by decide) (by decide) (by decide) (by decide)
  exact Nat.lt_trans this (by decide)
theorem mag_str (r : Row) (p : Nat) : (sStr r p).toNat % 2 ^ 31 < 161 * 2 ^ 23 := mag_half _
theorem mag_g2 (r : Row) (p : Nat) : (FP.fadd (sStr r p) (sStr r (p + 4))).toNat % 2 ^ 31 < 163 * 2 ^ 23 := FP.Core.fadd_mag (mag_str r p) (mag_str r _) (by decide)
theorem mag_glow (r : Row) (p : Nat) : (sGlow r p).toNat % 2 ^ 31 < 165 * 2 ^ 23 := FP.Core.fadd_mag (mag_g2 r p) (Nat.lt_trans (mag_str r _) (by decide)) (by decide)
theorem fin_glow (r : Row) (p : Nat) : FP.Core.FFin (sGlow r p) := FP.Core.fin_of_lt32 (mag_glow r p) (by decide)
theorem nn_g2 (r : Row) (p : Nat) : nn32 (FP.fadd (sStr r p) (sStr r (p + 4))) = true := nn_of (FP.Core.fin_of_lt32 (mag_g2 r p) (by decide)).notNaN
theorem nn_glow (r : Row) (p : Nat) : nn32 (sGlow r p) = true := nn_of (fin_glow r p).notNaN
/-! the reference's readings of a rate and a cell -/
theorem f_down {w : Wd} {p : Nat} (hp : p + 3 < 395) : f_X6_downOf (nI p) w = some (w.1 1 (p + 1) - w.1 1 (p + 3)) := by
  unfold f_X6_downOf
  simp (disch := omega) only [a_al, i_n, n_cl, if_true]
theorem f_size (x : Int32) : f_X6_size x = some (ab x) := by
  unfold f_X6_size f_X6_size_b10 ab
  split <;> rfl
theorem m_X {w : Wd} {p : Nat} (hp : p + 3 < 395) : f_X6_acrossOf (nI p) w = some (sX (RM w) p) := by
  rw [f_across (by omega), RM_at (by omega), RM_at (by omega)]; rfl
theorem m_Y {w : Wd} {p : Nat} (hp : p + 3 < 395) : f_X6_downOf (nI p) w = some (sY (RM w) p) := by
  rw [f_down (by omega), RM_at (by omega), RM_at (by omega)]; rfl
theorem m_S {w : Wd} {p : Nat} (hp : p + 3 < 395) : f_X6_sumOf (nI p) w = some (sS (RM w) p) := by
  unfold f_X6_sumOf
  rw [m_X hp, m_Y hp]
  simp only [bind_s, f_size]
  rfl
theorem m_Str {w : Wd} {p : Nat} (hp : p + 3 < 395) : f_X6_strengthOf (nI p) w = some (sStr (RM w) p) := by
  unfold f_X6_strengthOf
  rw [m_S hp]
  simp only [bind_s, nn_half, if_true]
  rfl
theorem m_Ph {w : Wd} {p : Nat} (hp : p + 3 < 395) : f_X6_phaseOf (nI p) w = some (sPh (sX (RM w) p) (sY (RM w) p)) := by
  unfold f_X6_phaseOf f_X6_phaseOf_b53
  rw [m_S hp, m_X hp, m_Y hp]
  simp only [bind_s, jlet_eq]
  unfold sPh
  by_cases h : sS (RM w) p = 0
  · rw [if_pos h, if_pos (by exact h)]
  · have h' : ¬ ab (sX (RM w) p) + ab (sY (RM w) p) = 0 := h
    have e1 := nn_of (nan_Q h')
    have e2 := nn_of (nan_4Q h')
    have e3 := nn_of (nan_2Q h')
    unfold sQ at e1 e2 e3
    rw [if_neg h, if_neg h']
    unfold sS sQ
    simp only [e1, e2, e3, if_true]
    split
    · split <;> rfl
    · rfl
theorem m_Res {w : Wd} {p : Nat} {wv : Int32} (hp : p + 3 < 395) (hw : ¬ wv = 0) : f_X6_residueOf (nI p) wv w = some (sRes (sX (RM w) p) (sY (RM w) p) wv) := by
  unfold f_X6_residueOf
  rw [m_Ph hp]
  simp only [bind_s, jlet_eq]
  have e1 := nn_of (nan_Pw (sX (RM w) p) (sY (RM w) p) hw)
  have e2 := nn_of (nan_P4 (sX (RM w) p) (sY (RM w) p) hw)
  have e3 := nn_of (nan_Ph5 (sX (RM w) p) (sY (RM w) p) hw)
  unfold sPw at e1 e2 e3
  rw [if_pos e1, if_pos e2, if_pos e3, if_pos hw]
  rfl
theorem m_glow {w : Wd} {p : Nat} (hp : p + 11 < 395) : f_X6_glowOf (nI p) w = some (sGlow (RM w) p) := by
  unfold f_X6_glowOf
  simp only [a_al]
  rw [m_Str (by omega), m_Str (by omega), m_Str (by omega)]
  simp only [bind_s]
  rw [if_pos (nn_g2 (RM w) p), if_pos (show nn32 (FP.fadd (FP.fadd (sStr (RM w) p) (sStr (RM w) (p + 4))) (sStr (RM w) (p + 8))) = true from nn_glow (RM w) p)]
  rfl
theorem m_away {d r wv : Int32} (hw : ¬ wv = 0) : f_X6_awayOf d r wv = some (if wv - (if 0 ≤ jrem (d - r) wv then jrem (d - r) wv else jrem (d - r) wv + wv) ≤ (if 0 ≤ jrem (d - r) wv then jrem (d - r) wv else jrem (d - r) wv + wv) then wv - (if 0 ≤ jrem (d - r) wv then jrem (d - r) wv else jrem (d - r) wv + wv) else (if 0 ≤ jrem (d - r) wv then jrem (d - r) wv else jrem (d - r) wv + wv)) := by
  unfold f_X6_awayOf f_X6_awayOf_b17 f_X6_awayOf_b32
  rw [if_pos hw]
  simp only [jlet_eq]
  split <;> split <;> rfl
theorem m_isCell (w : Wd) (e x y : Int32) : f_X6_isCell e x y w = some (if okC (RM w) e x y then 1 else 0) := by
  unfold f_X6_isCell f_X6_isCell_b45 f_X6_isCell_b46
  simp (disch := omega) only [f_in, bind_s, i_l, n_cll, if_true, zb_0, zb_1, RM_at]
  unfold okC
  by_cases h1 : (0 : Int32) ≤ e ∧ e ≤ 1
  · by_cases h2 : (0 : Int32) ≤ x ∧ x ≤ RM w 0 - 1
    · by_cases h3 : (0 : Int32) ≤ y ∧ y ≤ RM w 1 - 1
      · simp [h1, h2, h3]
      · simp [h1, h2, h3]
    · simp [h1, h2]
  · simp [h1]
theorem t10 {c : Prop} [Decidable c] : ((if c then (1 : Int32) else 0) = 0) ↔ ¬ c := by
  by_cases h : c
  · rw [if_pos h]; exact ⟨fun q => absurd q (by decide), fun q => absurd h q⟩
  · rw [if_neg h]; exact ⟨fun _ => h, fun _ => rfl⟩
theorem m_isRate (w : Wd) (e x y k : Int32) : f_X6_isRate e x y k w = some (if okC (RM w) e x y ∧ ((0 : Int32) ≤ k ∧ k ≤ 2) then 1 else 0) := by
  unfold f_X6_isRate f_X6_isRate_b24 f_X6_isRate_b25
  rw [m_isCell, bind_s, f_in]
  simp only [zb_0, zb_1, if_true, bind_s]
  by_cases h1 : okC (RM w) e x y
  · rw [if_pos h1, if_neg (by decide)]
    by_cases h2 : (0 : Int32) ≤ k ∧ k ≤ 2
    · rw [if_pos h2, if_neg (by decide), if_pos ⟨h1, h2⟩]
    · rw [if_neg h2, if_pos rfl, if_neg (fun q => h2 q.2)]
  · rw [if_neg h1, if_pos rfl, if_neg (fun q => h1 q.1)]
theorem m_place (e x y : Nat) : f_X6_cellPlace (nI e) (nI x) (nI y) = some (nI (pos (16 * e + 4 * y + x))) := by
  unfold f_X6_cellPlace
  simp only [a_lm, a_la, nI_add, pos]
  congr 2
  omega
