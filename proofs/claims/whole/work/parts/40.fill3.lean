/-! THE CLASS: filled -/
theorem c_placeC {w : Wd} {e x y : Int32} (hv : VR (RC w 10)) (h : okC (RC w 10) e x y) : f_X4_place e x y w = some (nI (cNo e x y)) ∧ cNo e x y < 32 := by
  obtain ⟨en, xn, yn, e1, e2, e3, e4, e5, -⟩ := okC_cell hv h
  refine ⟨?_, e5⟩
  rw [e4, e1, e2, e3]
  rw [e1, e2, e3] at h
  exact c_place h
theorem c_side {w : Wd} (hv : VR (RC w 10)) (hck : CK w) {e x y : Int32} {own : UInt32} (ho : own.toNat % 2 ^ 31 < 165 * 2 ^ 23) {j : Nat} (hj : j < 4) {s : FSt} (hs : FI j s) (n : Nat) :
    ∃ v : Wd, f_X2_filled_b39 e x y own (RC w 10 9) (n + 1) s.1 s.2.1 (nI j) w = f_X2_filled_b39 e x y own (RC w 10 9) n (stF (RC w 10) e own (x + fBx j) (y + fBy j) s).1 (stF (RC w 10) e own (x + fBx j) (y + fBy j) s).2.1 (nI (j + 1)) v ∧ FrC w v ∧ CK v := by
  obtain ⟨h91, h92, h93⟩ := VR_9 hv
  conv => enter [1, v]; lhs; lhs; rw [f_X2_filled_b39]
  rw [if_neg (fun q => by have := (c_lle (by omega) (by omega)).mp q; omega), if_pos (i_n (by omega) (by omega)), if_pos (i_n (by omega) (by omega)), n_cl (by omega)]
  unfold f_X2_filled_b175
  rw [a_al]
  by_cases hok : okC (RC w 10) e (x + fBx j) (y + fBy j)
  · obtain ⟨hpl, hc⟩ := c_placeC hv hok
    have hn9 : ¬ RC w 10 9 < 1 := by rw [h91]; exact fun q => by have := (c_ltl (by omega) (by omega)).mp q; omega
    rw [hpl, bind_s, if_neg (nI_pos (by omega)), if_neg hn9]
    obtain ⟨v, ev, hF, hck', hsc⟩ := c_mark hv hck hc
    have hR := FrC_RC hF
    have hl5 := lk_le (RC w 10) (cNo e (x + fBx j) (y + fBy j))
    rw [ev, bind_s]
    simp only
    by_cases hm : (lkS (RC w 10) (cNo e (x + fBx j) (y + fBy j))).1 = 0
    · rw [if_pos ((c_eq0 (by omega)).mpr hm), c_glow hc, bind_s, hR, if_pos (nn_of (fD_fin ho).notNaN), jlet_eq]
      have hD : (if 0 ≤ fcg (FP.fsub (sGlow (RC w 10) (pos (cNo e (x + fBx j) (y + fBy j)))) own) FP.fconst0 then f_X2_filled_b126 e x y own (RC w 10 9) s.1 s.2.1 (nI j) (nI (cNo e (x + fBx j) (y + fBy j))) (FP.fsub (sGlow (RC w 10) (pos (cNo e (x + fBx j) (y + fBy j)))) own) (f_X2_filled_b39 e x y own (RC w 10 9) n) v else f_X2_filled_b126 e x y own (RC w 10 9) s.1 s.2.1 (nI j) (nI (cNo e (x + fBx j) (y + fBy j))) (FP.fneg (FP.fsub (sGlow (RC w 10) (pos (cNo e (x + fBx j) (y + fBy j)))) own)) (f_X2_filled_b39 e x y own (RC w 10 9) n) v) = f_X2_filled_b126 e x y own (RC w 10 9) s.1 s.2.1 (nI j) (nI (cNo e (x + fBx j) (y + fBy j))) (fDS (RC w 10) (cNo e (x + fBx j) (y + fBy j)) own) (f_X2_filled_b39 e x y own (RC w 10 9) n) v := by
        unfold fDS dabs
        split <;> rfl
      rw [hD]
      unfold f_X2_filled_b126 f_X2_filled_b175
      rw [a_al, if_pos (nn_4e _)]
      by_cases hlt : 0 < fcg (fDS (RC w 10) (cNo e (x + fBx j) (y + fBy j)) own) (FP.fmul 1082130432 (FP.i2f (RC w 10 9)))
      · have hst : stF (RC w 10) e own (x + fBx j) (y + fBy j) s = s := by unfold stF; exact if_neg (fun q => q.2.2 hlt)
        rw [if_pos hlt, hst]
        exact ⟨v, rfl, hF, hck'⟩
      · have hst : stF (RC w 10) e own (x + fBx j) (y + fBy j) s = (FP.fadd s.1 (fvS (RC w 10) (fDS (RC w 10) (cNo e (x + fBx j) (y + fBy j)) own)), FP.fadd s.2.1 (FP.fmul (fvS (RC w 10) (fDS (RC w 10) (cNo e (x + fBx j) (y + fBy j)) own)) (FP.i2f (enc (lkS (RC w 10) (cNo e (x + fBx j) (y + fBy j))).2.1))), true) := by unfold stF; exact if_pos ⟨hok, hm, hlt⟩
        rw [if_neg hlt, hst]
        have hmag : (fDS (RC w 10) (cNo e (x + fBx j) (y + fBy j)) own).toNat % 2 ^ 31 < 167 * 2 ^ 23 := by unfold fDS; rw [dabs_mag]; exact fD_mag ho
        have hnn : 0 ≤ zv (fDS (RC w 10) (cNo e (x + fBx j) (y + fBy j)) own) := dabs_nn (fD_fin ho)
        obtain ⟨w1, w2, w3, -, -⟩ := w_facts hv hmag hnn
        obtain ⟨a1, a2, a3, -⟩ := FI_add hv (by omega) hs hmag hnn (enc (lkS (RC w 10) (cNo e (x + fBx j) (y + fBy j))).2.1)
        unfold fvS at w3 a1 a2 a3
        rw [if_pos w1, if_pos w2, if_pos w3, jlet_eq, if_pos a1, jlet_eq, if_pos (i_n (by omega) (by omega)), n_cl (by omega), hsc.2.1 hm, if_pos a2, if_pos a3, jlet_eq]
        exact ⟨v, rfl, hF, hck'⟩
    · have hst : stF (RC w 10) e own (x + fBx j) (y + fBy j) s = s := by unfold stF; exact if_neg (fun q => hm q.2.1)
      rw [if_neg (fun q => hm ((c_eq0 (by omega)).mp q)), hst]
      exact ⟨v, rfl, hF, hck'⟩
  · have hst : stF (RC w 10) e own (x + fBx j) (y + fBy j) s = s := by unfold stF; exact if_neg (fun q => hok q.1)
    rw [c_placeN hok, bind_s, if_pos (by decide), hst]
    exact ⟨w, rfl, FrC.rf w, hck⟩
theorem a_m1 (y : Int32) : y + -1 = y - 1 := by rw [Int32.sub_eq_add_neg]
theorem c_filled {w : Wd} (hv : VR (RC w 10)) (hck : CK w) {e x y : Int32} (hok : okC (RC w 10) e x y) : ∃ v : Wd, f_X2_filled e x y w = some (filS (RC w 10) e x y, v) ∧ FrC w v ∧ CK v := by
  obtain ⟨hpl, hc⟩ := c_placeC hv hok
  have ho := mag_glow (RC w 10) (pos (cNo e x y))
  have h12 : w.1 12 4 = RC w 10 9 := RC_s10 (k := 4) (by omega)
  unfold f_X2_filled
  rw [hpl, bind_s, c_glow hc, bind_s, if_pos (i_l (by omega) (by omega)), n_cll (by omega), h12, jlet_eq]
  have hF5 : FUEL = 19995 + 1 + 1 + 1 + 1 + 1 := rfl
  rw [hF5]
  obtain ⟨v1, e1, F1, k1⟩ := c_side hv hck (e := e) (x := x) (y := y) ho (j := 0) (by omega) (s := s0F) FI_0 (19995 + 1 + 1 + 1 + 1)
  have I1 := FI_st hv (by omega) FI_0 e ho (x + fBx 0) (y + fBy 0)
  have R1 := FrC_RC F1
  obtain ⟨v2, e2, F2, k2⟩ := c_side (by rw [R1]; exact hv) k1 (e := e) (x := x) (y := y) ho (j := 1) (by omega) I1 (19995 + 1 + 1 + 1)
  rw [R1] at e2
  have G2 := F1.tr F2
  have I2 := FI_st hv (by omega) I1 e ho (x + fBx 1) (y + fBy 1)
  have R2 := FrC_RC G2
  obtain ⟨v3, e3, F3, k3⟩ := c_side (by rw [R2]; exact hv) k2 (e := e) (x := x) (y := y) ho (j := 2) (by omega) I2 (19995 + 1 + 1)
  rw [R2] at e3
  have G3 := G2.tr F3
  have I3 := FI_st hv (by omega) I2 e ho (x + fBx 2) (y + fBy 2)
  have R3 := FrC_RC G3
  obtain ⟨v4, e4, F4, k4⟩ := c_side (by rw [R3]; exact hv) k3 (e := e) (x := x) (y := y) ho (j := 3) (by omega) I3 (19995 + 1)
  rw [R3] at e4
  have G4 := G3.tr F4
  have hfold : stF (RC w 10) e (sGlow (RC w 10) (pos (cNo e x y))) (x + fBx 3) (y + fBy 3) (stF (RC w 10) e (sGlow (RC w 10) (pos (cNo e x y))) (x + fBx 2) (y + fBy 2) (stF (RC w 10) e (sGlow (RC w 10) (pos (cNo e x y))) (x + fBx 1) (y + fBy 1) (stF (RC w 10) e (sGlow (RC w 10) (pos (cNo e x y))) (x + fBx 0) (y + fBy 0) s0F))) = fil4 (RC w 10) e x y (sGlow (RC w 10) (pos (cNo e x y))) := by
    have q0 : fBx 0 = 0 := by decide
    have q1 : fBx 1 = 1 := by decide
    have q2 : fBx 2 = 0 := by decide
    have q3 : fBx 3 = -1 := by decide
    have p0 : fBy 0 = -1 := by decide
    have p1 : fBy 1 = 0 := by decide
    have p2 : fBy 2 = 1 := by decide
    have p3 : fBy 3 = 0 := by decide
    unfold fil4
    rw [q0, q1, q2, q3, p0, p1, p2, p3, a_m1, a_m1, Int32.add_zero, Int32.add_zero]
  refine ⟨v4, ?_, G4, k4⟩
  refine (show f_X2_filled_b39 e x y (sGlow (RC w 10) (pos (cNo e x y))) (RC w 10 9) (19995 + 1 + 1 + 1 + 1 + 1) s0F.1 s0F.2.1 (nI 0) w = _ from ?_)
  rw [e1, e2, e3, e4, hfold]
  have I4 : FI 4 (fil4 (RC w 10) e x y (sGlow (RC w 10) (pos (cNo e x y)))) := FI_4 hv e x y ho
  obtain ⟨E1, E2⟩ := FI_end I4
  rw [f_X2_filled_b39, if_pos (by decide)]
  unfold f_X2_filled_b200 filS
  by_cases q : (fil4 (RC w 10) e x y (sGlow (RC w 10) (pos (cNo e x y)))).2.2 = true
  · rw [if_neg (E1 q).2, if_pos (E1 q).1, if_pos q]
  · rw [if_pos (E2 (by simpa using q)), if_neg q]
