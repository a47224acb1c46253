/-! THE REFERENCE: filledOf -/
def FrF (w v : Wd) : Prop := (∀ c, c ≠ 0 → c ≠ 6 → v.1 c = w.1 c) ∧ (∀ k, (k < 7 ∨ (13 < k ∧ k < 18) ∨ 20 < k) → v.1 0 k = w.1 0 k) ∧ v.2 = w.2
theorem FrF.rf (w : Wd) : FrF w w := ⟨fun _ _ _ => rfl, fun _ _ => rfl, rfl⟩
theorem FrF.tr {w v u : Wd} (h1 : FrF w v) (h2 : FrF v u) : FrF w u := ⟨fun c a b => (h2.1 c a b).trans (h1.1 c a b), fun k a => (h2.2.1 k a).trans (h1.2.1 k a), h2.2.2.trans h1.2.2⟩
theorem FrF.L {w v : Wd} (h : FrL w v) : FrF w v := ⟨h.1, fun k a => h.2.1 k (by omega), h.2.2⟩
theorem FrF.s0 {w v : Wd} (h : FrF w v) {k : Nat} (x : Int32) (h1 : 18 ≤ k) (h2 : k ≤ 20) : FrF w (wset v 0 k x) := ⟨fun c a b => by rw [ws_c _ _ a]; exact h.1 c a b, fun j a => by rw [ws_k _ _ (by omega)]; exact h.2.1 j a, h.2.2⟩
theorem FrF_RM {w v : Wd} (h : FrF w v) : RM v = RM w := by
  funext k
  unfold RM
  rw [h.1 1 (by decide) (by decide)]
def flAt (w : Wd) (s : FSt) : Prop := (w.1 0 18).toUInt32 = s.1 ∧ (w.1 0 19).toUInt32 = s.2.1 ∧ w.1 0 20 = (if s.2.2 = true then 1 else 0)
theorem okC_cell {r : Row} {e x y : Int32} (hv : VR r) (h : okC r e x y) : ∃ en xn yn : Nat, e = nI en ∧ x = nI xn ∧ y = nI yn ∧ cNo e x y = 16 * en + 4 * yn + xn ∧ cNo e x y < 32 ∧ en < 2 ∧ xn < 4 ∧ yn < 4 := by
  obtain ⟨en, xn, yn, h1, h2, h3, -, e1, e2, e3⟩ := okC_nat hv h
  refine ⟨en, xn, yn, e1, e2, e3, ?_, ?_, h1, h2, h3⟩
  · unfold cNo
    rw [e1, e2, e3, tn_n (by omega), tn_n (by omega), tn_n (by omega)]
  · unfold cNo
    rw [e1, e2, e3, tn_n (by omega), tn_n (by omega), tn_n (by omega)]
    omega
theorem m_placeC {r : Row} {e x y : Int32} (hv : VR r) (h : okC r e x y) : f_X6_cellPlace e x y = some (nI (pos (cNo e x y))) ∧ cNo e x y < 32 := by
  obtain ⟨en, xn, yn, e1, e2, e3, e4, e5, -⟩ := okC_cell hv h
  refine ⟨?_, e5⟩
  rw [e4, e1, e2, e3, m_place]
theorem nn_4e (x : Int32) : nn32 (FP.fmul 1082130432 (FP.i2f x)) = true := nn_of (FP.Core.fmul_out fin_4 (fin_i x))
theorem toU (a : UInt32) : (a.toInt32).toUInt32 = a := rfl
theorem m_weighs {w : Wd} (hv : VR (RM w)) {e x y : Int32} {own : UInt32} (ho : own.toNat % 2 ^ 31 < 165 * 2 ^ 23) {i : Nat} (hi : i ≤ 4) {s : FSt} (hs : FI i s) (hf : flAt w s) :
    ∃ v : Wd, f_X6_weighs e x y own w = some v ∧ FrF w v ∧ flAt v (stF (RM w) e own x y s) := by
  unfold f_X6_weighs
  rw [m_isCell, bind_s]
  by_cases hok : okC (RM w) e x y
  · rw [if_pos hok, if_neg (by decide)]
    obtain ⟨hpl, hc⟩ := m_placeC hv hok
    rw [hpl, bind_s]
    obtain ⟨v, ev, hF, h7, h8, h9, h10⟩ := m_looks hv hc
    have hRM := FrL_RM hF
    have hvv : VR (RM v) := by rw [hRM]; exact hv
    rw [ev, bind_s, bind_s, m_glow (by unfold pos; omega), bind_s, hRM, if_pos (nn_of (fD_fin ho).notNaN), jlet_eq]
    have hfv : flAt v s := ⟨by rw [hF.2.1 18 (by omega)]; exact hf.1, by rw [hF.2.1 19 (by omega)]; exact hf.2.1, by rw [hF.2.1 20 (by omega)]; exact hf.2.2⟩
    have hD : (if 0 ≤ fcg (FP.fsub (sGlow (RM w) (pos (cNo e x y))) own) FP.fconst0 then f_X6_weighs_b51 (FP.fsub (sGlow (RM w) (pos (cNo e x y))) own) v else f_X6_weighs_b51 (FP.fneg (FP.fsub (sGlow (RM w) (pos (cNo e x y))) own)) v) = f_X6_weighs_b51 (fDS (RM w) (cNo e x y) own) v := by
      unfold fDS dabs
      split <;> rfl
    rw [hD]
    have e9 : v.1 1 9 = RM w 9 := by rw [RM_at (by omega), hRM]
    have hl5 := lk_le (RM w) (cNo e x y)
    unfold f_X6_weighs_b51 f_X6_weighs_b127
    rw [if_pos (i_l (by omega) (by omega)), n_cll (by omega), e9, if_pos (nn_4e _), h7]
    by_cases hm : (lkS (RM w) (cNo e x y)).1 = 0
    · rw [if_pos ((c_eq0 (by omega)).mpr hm)]
      by_cases hlt : 0 < fcg (fDS (RM w) (cNo e x y) own) (FP.fmul 1082130432 (FP.i2f (RM w 9)))
      · have hst : stF (RM w) e own x y s = s := by unfold stF; exact if_neg (fun q => q.2.2 hlt)
        rw [if_pos hlt, hst]
        exact ⟨v, rfl, FrF.L hF, hfv⟩
      · have hst : stF (RM w) e own x y s = (FP.fadd s.1 (fvS (RM w) (fDS (RM w) (cNo e x y) own)), FP.fadd s.2.1 (FP.fmul (fvS (RM w) (fDS (RM w) (cNo e x y) own)) (FP.i2f (enc (lkS (RM w) (cNo e x y)).2.1))), true) := by unfold stF; exact if_pos ⟨hok, hm, hlt⟩
        rw [if_neg hlt, hst]
        have hmag : (fDS (RM w) (cNo e x y) own).toNat % 2 ^ 31 < 167 * 2 ^ 23 := by unfold fDS; rw [dabs_mag]; exact fD_mag ho
        have hnn : 0 ≤ zv (fDS (RM w) (cNo e x y) own) := dabs_nn (fD_fin ho)
        obtain ⟨w1, w2, w3, -, -⟩ := w_facts hv hmag hnn
        obtain ⟨a1, a2, a3, -⟩ := FI_add hv hi hs hmag hnn (enc (lkS (RM w) (cNo e x y)).2.1)
        unfold fvS at w3 a1 a2 a3
        rw [if_pos (i_l (by omega) (by omega)), if_pos w1, if_pos w2, if_pos w3, jlet_eq, hfv.1, if_pos a1, wput_eq, ws_k _ _ (by decide), h8, if_pos a2, ws_k _ _ (by decide), hfv.2.1, if_pos a3, wput_eq, wput_eq]
        refine ⟨_, rfl, (((FrF.L hF).s0 _ (by omega) (by omega)).s0 _ (by omega) (by omega)).s0 _ (by omega) (by omega), ?_, ?_, ?_⟩
        · rw [ws_k _ _ (by decide), ws_k _ _ (by decide), ws_same]; rfl
        · rw [ws_k _ _ (by decide), ws_same]; rfl
        · rw [ws_same]; rfl
    · have hst : stF (RM w) e own x y s = s := by unfold stF; exact if_neg (fun q => hm q.2.1)
      rw [if_neg (fun q => hm ((c_eq0 (by omega)).mp q)), hst]
      exact ⟨v, rfl, FrF.L hF, hfv⟩
  · rw [if_neg hok, if_pos rfl]
    refine ⟨w, rfl, FrF.rf w, ?_⟩
    unfold stF
    rw [if_neg (fun q => hok q.1)]
    exact hf
theorem m_filled {w : Wd} (hv : VR (RM w)) {e x y : Int32} (hok : okC (RM w) e x y) : ∃ v : Wd, f_X6_filledOf e x y w = some (filS (RM w) e x y, v) ∧ FrF w v := by
  obtain ⟨hpl, hc⟩ := m_placeC hv hok
  unfold f_X6_filledOf f_X6_filledOf_b94
  rw [hpl, bind_s, m_glow (by unfold pos; omega), bind_s]
  simp only [wput_eq]
  have ho := mag_glow (RM w) (pos (cNo e x y))
  obtain ⟨w0, hw0⟩ : ∃ w0, w0 = wset (wset (wset w 0 18 FP.fconst0.toInt32) 0 19 FP.fconst0.toInt32) 0 20 0 := ⟨_, rfl⟩
  have hF0 : FrF w w0 := by rw [hw0]; exact (((FrF.rf w).s0 _ (by omega) (by omega)).s0 _ (by omega) (by omega)).s0 _ (by omega) (by omega)
  have hf0 : flAt w0 s0F := by
    rw [hw0]
    refine ⟨?_, ?_, ?_⟩
    · rw [ws_k _ _ (by decide), ws_k _ _ (by decide), ws_same]; rfl
    · rw [ws_k _ _ (by decide), ws_same]; rfl
    · rw [ws_same]; rfl
  rw [← hw0]
  have R0 := FrF_RM hF0
  obtain ⟨v1, e1, F1, f1⟩ := m_weighs (by rw [R0]; exact hv) (e := e) (x := x) (y := y - 1) ho (by omega) FI_0 hf0
  rw [e1, bind_s]
  rw [R0] at f1
  have G1 := hF0.tr F1
  have R1 := FrF_RM G1
  have I1 := FI_st hv (by omega) FI_0 e ho x (y - 1)
  obtain ⟨v2, e2, F2, f2⟩ := m_weighs (by rw [R1]; exact hv) (e := e) (x := x + 1) (y := y) ho (by omega) I1 f1
  rw [e2, bind_s]
  rw [R1] at f2
  have G2 := G1.tr F2
  have R2 := FrF_RM G2
  have I2 := FI_st hv (by omega) I1 e ho (x + 1) y
  obtain ⟨v3, e3, F3, f3⟩ := m_weighs (by rw [R2]; exact hv) (e := e) (x := x) (y := y + 1) ho (by omega) I2 f2
  rw [e3, bind_s]
  rw [R2] at f3
  have G3 := G2.tr F3
  have R3 := FrF_RM G3
  have I3 := FI_st hv (by omega) I2 e ho x (y + 1)
  obtain ⟨v4, e4, F4, f4⟩ := m_weighs (by rw [R3]; exact hv) (e := e) (x := x - 1) (y := y) ho (by omega) I3 f3
  rw [e4, bind_s]
  rw [R3] at f4
  have G4 := G3.tr F4
  have I4 : FI 4 (fil4 (RM w) e x y (sGlow (RM w) (pos (cNo e x y)))) := FI_4 hv e x y ho
  have f4' : flAt v4 (fil4 (RM w) e x y (sGlow (RM w) (pos (cNo e x y)))) := f4
  obtain ⟨E1, E2⟩ := FI_end I4
  refine ⟨v4, ?_, G4⟩
  unfold filS
  rw [f4'.2.2, f4'.1, f4'.2.1]
  by_cases q : (fil4 (RM w) e x y (sGlow (RM w) (pos (cNo e x y)))).2.2 = true
  · rw [if_pos q, if_neg (by decide), if_pos (E1 q).1, if_pos q]
  · rw [if_neg q, if_pos rfl, if_neg q]
