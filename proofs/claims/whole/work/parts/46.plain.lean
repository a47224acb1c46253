/-! PLAIN BITS: strengths, brightnesses, phases -/
theorem zv_mag {a : UInt32} (h : FP.Core.val32 a ≠ .nan) : (zv a).natAbs = FP.Core.unitsOf FP.Core.b32 (a.toNat % 2 ^ 31) := by
  unfold zv FP.Core.zval
  rw [FP.Core.natAbs_signed, FP.Core.zmag_toNat32 h]
def fH : UInt32 := 947912704
theorem zv_H : 0 < zv fH := by decide +kernel
theorem n_H : FP.Core.val32 fH ≠ .nan := by decide +kernel
theorem mag_H : fH.toNat % 2 ^ 31 = 113 * 2 ^ 23 := by decide
def PH (a : UInt32) : Prop := a = 0 ∨ zv fH ≤ zv a
theorem PH_GF {a : UInt32} (hf : FP.Core.FFin a) (h : PH a) : GF a := by
  rcases h with rfl | h
  · exact .inl rfl
  · refine .inr ⟨?_, (FP.Core.fin_bits32 a).mp hf⟩
    have h1 := zv_mag (fin_n hf)
    have h2 := zv_mag n_H
    have h0 := zv_H
    have h3 : FP.Core.unitsOf FP.Core.b32 (fH.toNat % 2 ^ 31) ≤ FP.Core.unitsOf FP.Core.b32 (a.toNat % 2 ^ 31) := by omega
    have h4 := FP.Core.unitsOf_le_iff.mp h3
    rw [mag_H] at h4
    omega
theorem zv_z : zv 0 = 0 := by decide +kernel
theorem PH_nn {a : UInt32} (h : PH a) : 0 ≤ zv a := by
  rcases h with rfl | h
  · rw [zv_z]; omega
  · have := zv_H; omega
theorem PH_add {a b : UInt32} (ha : FP.Core.FFin a) (hb : FP.Core.FFin b) (pa : PH a) (pb : PH b) : PH (FP.fadd a b) := by
  have na := PH_nn pa
  have nb := PH_nn pb
  rcases pa with rfl | pa
  · rcases pb with rfl | pb
    · left; decide +kernel
    · right; exact zv_add ha hb n_H (by omega)
  · right; exact zv_add ha hb n_H (by omega)
theorem qf_pos {y S : Int32} (hy0 : 0 < y.toInt) (hy : y.toInt ≤ 2 ^ 24) (hyS : S.toInt.natAbs ≤ y.toInt.natAbs * 2 ^ 14) (h0 : 0 < S.toInt) (hS : S.toInt ≤ 2 ^ 24) : zv fH ≤ zv (FP.fdiv (FP.i2f y) (FP.i2f S)) := by
  have hv := qf_val (y := y) (by omega) h0 hS
  have hnn : FP.Core.val32 (FP.fdiv (FP.i2f y) (FP.i2f S)) ≠ .nan := by rw [hv]; exact FP.Core.roundRatio_ne_nan _ _ _ _ _
  have h1 := zv_mag hnn
  have h2 := zv_mag n_H
  have h3 := qf_ge (y := y) (by omega) hyS h0 hS
  rw [← mag_H] at h3
  have h4 := FP.Core.unitsOf_le_iff (f := FP.Core.b32).mpr h3
  have h5 : 0 ≤ zv (FP.fdiv (FP.i2f y) (FP.i2f S)) := by
    unfold zv FP.Core.zval
    rw [hv, FP.Core.sgn_roundRatio, sg_i (by omega) (by omega), decide_eq_false (by omega)]
    unfold FP.Core.signed
    simp
  have h6 := zv_H
  omega
theorem i2f_2 : FP.i2f (nI 2) = FP.fconst2 := by decide +kernel
theorem PH_half {n : Nat} (hn : n ≤ 8190) : PH (FP.fdiv (FP.i2f (nI n)) FP.fconst2) := by
  by_cases h : n = 0
  · subst h
    left
    decide +kernel
  · right
    have e1 : (nI n).toInt = (n : Int) := toI_n (by omega)
    have e2 : (nI 2).toInt = 2 := by decide
    rw [← i2f_2]
    exact qf_pos (by omega) (by omega) (by omega) (by omega) (by omega)
theorem PH_str {r : Row} (hv : VR r) {c k : Nat} (hc : c < 32) (hk : k < 3) : PH (sStr r (pos c + 4 * k)) := by
  obtain ⟨n, hn, e⟩ := sS_n hv hc hk
  unfold sStr
  rw [e]
  exact PH_half hn
theorem fin_str (r : Row) (p : Nat) : FP.Core.FFin (sStr r p) := FP.Core.fin_of_lt32 (mag_str r p) (by decide)
theorem fin_g2 (r : Row) (p : Nat) : FP.Core.FFin (FP.fadd (sStr r p) (sStr r (p + 4))) := FP.Core.fin_of_lt32 (mag_g2 r p) (by decide)
theorem GF_glow {r : Row} (hv : VR r) {c : Nat} (hc : c < 32) : GF (sGlow r (pos c)) := by
  refine PH_GF (fin_glow r _) ?_
  have p0 := PH_str hv hc (k := 0) (by omega)
  have p1 := PH_str hv hc (k := 1) (by omega)
  have p2 := PH_str hv hc (k := 2) (by omega)
  unfold sGlow
  exact PH_add (fin_g2 r _) (fin_str r _) (PH_add (fin_str r _) (fin_str r _) p0 p1) p2
theorem dif_int {x : Int32} (h : dif x) : ∃ n : Nat, n ≤ 4095 ∧ ab x = nI n ∧ x.toInt.natAbs = n ∧ ((0 ≤ x) ↔ 0 ≤ x.toInt) := by
  obtain ⟨n, hn, e, hx⟩ := dif_ab h
  refine ⟨n, hn, e, ?_, Int32.le_iff_toInt_le⟩
  have e1 : (nI n).toInt = (n : Int) := toI_n (by omega)
  rcases hx with rfl | rfl
  · omega
  · have : (-nI n).toInt = -(n : Int) := by
      have := toI_sub (x := 0) (y := nI n) (by rw [e1]; have : (0 : Int32).toInt = 0 := rfl; omega) (by rw [e1]; have : (0 : Int32).toInt = 0 := rfl; omega)
      rw [show (0 : Int32) - nI n = -nI n by simp] at this
      rw [this, e1]
      have : (0 : Int32).toInt = 0 := rfl
      omega
    omega
theorem zv_1v : zv 3212836864 = - zv FP.fconst1 := by decide +kernel
theorem zv_2v : zv FP.fconst2 = zv FP.fconst1 + zv FP.fconst1 := by decide +kernel
theorem zv_43 : zv 1082130432 = zv 1077936128 + zv FP.fconst1 := by decide +kernel
theorem zv_H1 : zv fH ≤ zv FP.fconst1 := by decide +kernel
theorem zv_H3 : zv fH ≤ zv 1077936128 := by decide +kernel
theorem mag_1f : FP.fconst1.toNat % 2 ^ 31 = 127 * 2 ^ 23 := by decide
theorem GF_ph {x y : Int32} (hx : dif x) (hy : dif y) : GF (sPh x y) := by
  obtain ⟨n, hn, ex, nx, sx⟩ := dif_int hx
  obtain ⟨m, hm, ey, ny, sy⟩ := dif_int hy
  unfold sPh
  by_cases hz : ab x + ab y = 0
  · rw [if_pos hz]
    right
    decide
  · rw [if_neg hz]
    have eS : ab x + ab y = nI (n + m) := by rw [ex, ey, nI_add]
    have eI : (ab x + ab y).toInt = ((n + m : Nat) : Int) := by rw [eS]; exact toI_n (by omega)
    have hpos : 0 < n + m := by
      rcases Nat.eq_zero_or_pos (n + m) with z | z
      · exfalso; apply hz; rw [eS, z]; rfl
      · exact z
    have hle : (sQ x y).toNat % 2 ^ 31 ≤ 127 * 2 ^ 23 := qf_le (by omega) (by omega) (by omega)
    have hfin : FP.Core.FFin (sQ x y) := FP.Core.fin_of_lt32 (K := 128) (by omega) (by omega)
    have hq1 : (zv (sQ x y)).natAbs ≤ (zv FP.fconst1).natAbs := by
      rw [zv_mag (fin_n hfin), zv_mag (fin_n fin_1)]
      refine FP.Core.unitsOf_le_iff.mpr ?_
      rw [mag_1f]
      exact hle
    have h1 := zv_1
    by_cases hx0 : 0 ≤ x
    · rw [if_pos hx0]
      by_cases hy0 : y < 0
      · rw [if_pos hy0]
        have hf : FP.Core.FFin (FP.fadd 1082130432 (sQ x y)) := FP.Core.fin_of_lt32 (FP.Core.fadd_mag (K := 130) (by decide) (by omega) (by decide)) (by decide)
        refine PH_GF hf (.inr ?_)
        have := zv_add fin_4 hfin (fin_n fin_3) (by rw [zv_43]; omega)
        have := zv_H3
        omega
      · rw [if_neg hy0]
        have hyn : 0 ≤ y.toInt := sy.mp (Int32.not_lt.mp hy0)
        by_cases hm0 : m = 0
        · have e0 : y = 0 := Int32.toInt_inj.mp (by have : (0 : Int32).toInt = 0 := rfl; omega)
          left
          have hv := qf_val (y := y) (S := ab x + ab y) (by omega) (by omega) (by omega)
          have hnn := fin_n hfin
          have hsg := FP.Core.sgn_bits32 hnn
          rw [show FP.Core.val32 (sQ x y) = _ from hv, FP.Core.sgn_roundRatio, e0, show FP.Core.sgn (FP.Core.val32 (FP.i2f 0)) = false from by decide +kernel] at hsg
          have h2 : ¬ 2 ^ 31 ≤ (sQ x 0).toNat := fun z => by rw [decide_eq_true z] at hsg; cases hsg
          have h3 : FP.Core.FZero (sQ x y) := ⟨_, _, by rw [show FP.Core.val32 (sQ x y) = _ from hv, ny, hm0]; unfold FP.Core.roundRatio; rw [if_pos rfl]⟩
          have h4 := (FP.Core.zero_bits232 _).mp h3
          rw [e0] at h4 ⊢
          omega
        · exact PH_GF hfin (.inr (qf_pos (by omega) (by omega) (by omega) (by omega) (by omega)))
    · rw [if_neg hx0]
      have en := neg_n (sQ x y)
      have eneg : FP.Core.fneg (sQ x y) = FP.fneg (sQ x y) := FP.Core.val32_inj (by rw [FP.Core.val32_fneg]; exact FP.Core.negate_ne_nan (fin_n hfin)) (by rw [FP.Core.val32_fneg, en.2])
      have e1 : FP.fsub FP.fconst2 (sQ x y) = FP.fadd FP.fconst2 (FP.Core.fneg (sQ x y)) := FP.Core.fsub_eq _ _
      rw [e1, eneg]
      have hfn : FP.Core.FFin (FP.fneg (sQ x y)) := FP.Core.fin_of_lt32 (K := 128) (by omega) (by omega)
      have hz1 : zv (FP.fneg (sQ x y)) = - zv (sQ x y) := by unfold zv; rw [en.2, FP.Core.zval_negate]
      have hf : FP.Core.FFin (FP.fadd FP.fconst2 (FP.fneg (sQ x y))) := FP.Core.fin_of_lt32 (FP.Core.fadd_mag (K := 130) (by decide) (by omega) (by decide)) (by decide)
      refine PH_GF hf (.inr ?_)
      have := zv_add fin_2 hfn (fin_n fin_1) (by rw [zv_2v]; omega)
      have := zv_H1
      omega
theorem s_bits {w v : Wd} (h : Sim w v) (e x y k i : Int32) : Ag (f_X5_bits e x y k i w) (f_X6_bits e x y k i v) := by
  have hv := h.2.1
  have hr := h.1
  unfold f_X5_bits f_X6_bits f_X5_bits_b37 f_X6_bits_b22 f_X5_bits_b93 f_X6_bits_b60
  simp only [bd]
  rcases rate_c h e x y k with ⟨c, kn, ec, hk, rfl, hok, hp, hc, e1, e2, e3⟩ | ⟨e1, hp | ⟨c, hc, hp, e3⟩⟩
  · rw [hp, e1, bind_s, bind_s, if_neg (nlt0 (by omega)), e3, bind_s, if_neg one0, if_neg one0]
    rcases rng_c i 1 (by decide) with ⟨n, hn, rfl, e4, e5⟩ | ⟨e4, e5⟩
    · have hn' : n ≤ 1 := hn
      rw [e4, e5, bind_s, bind_s, if_neg one0, if_neg one0, e2, bind_s]
      have hpb : pos c + 4 * kn + 3 < 395 := by unfold pos; omega
      rw [jlet_eq, a_lm, nI_add]
      have g1 : GF (sPh (sX (RM v) (pos c + 4 * kn)) (sY (RM v) (pos c + 4 * kn))) := GF_ph (dif_X hv hc hk) (dif_Y hv hc hk)
      have g2 : GF (sStr (RM v) (pos c + 4 * kn)) := PH_GF (fin_str _ _) (PH_str hv hc hk)
      have e6 : FP.fdiv (FP.i2f (ab (sX (RM v) (pos c + 4 * kn)) + ab (sY (RM v) (pos c + 4 * kn)))) FP.fconst2 = sStr (RM v) (pos c + 4 * kn) := rfl
      simp only [c_X hc hk, c_Y hc hk, bind_s, hr, m_Str hpb, m_Ph hpb, c_Strxy, c_Ph, e6, ofF g1, ofF g2, jF (fin_n (GF_fin g1)), jF (fin_n (GF_fin g2))]
      rcases (by omega : n = 0 ∨ n = 1) with rfl | rfl
      · exact Ag_same h _ rfl rfl
      · exact Ag_same h _ rfl rfl
    · rw [e4, e5, bind_s, bind_s, if_pos rfl, if_pos rfl]
      exact Ag_bad h rfl rfl
  · rw [hp, e1, bind_s, bind_s, if_pos m1lt, if_pos rfl]
    exact Ag_bad h rfl rfl
  · rw [hp, e1, bind_s, bind_s, if_neg (nlt0 (by omega)), e3, bind_s, if_pos rfl, if_pos rfl]
    exact Ag_bad h rfl rfl
theorem s_glow {w v : Wd} (h : Sim w v) (e x y : Int32) : Ag (f_X5_glow e x y w) (f_X6_glow e x y v) := by
  have hv := h.2.1
  have hr := h.1
  unfold f_X5_glow f_X6_glow f_X5_glow_b39 f_X6_glow_b30
  simp only [bd]
  rcases cell_c h e x y with ⟨c, ec, hok, hp, hc, e1, e2⟩ | ⟨e1, hp, hok⟩
  · rw [hp, e1, bind_s, bind_s, if_pos (nI_pos' (by omega)), if_neg one0, e2, bind_s, m_glow (by unfold pos; omega), c_glow hc, hr, bind_s, bind_s, ofF (GF_glow hv hc), jF (fin_n (fin_glow _ _))]
    exact Ag_same h _ rfl rfl
  · rw [hp, e1, bind_s, bind_s, if_neg (by decide), if_pos rfl]
    exact Ag_bad h rfl rfl
