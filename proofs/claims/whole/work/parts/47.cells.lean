/-! BOTH SIDES ALIKE: methods that read a cell -/
theorem both_look {w v : Wd} (h : Sim w v) {c : Nat} (hc : c < 32) : ∃ w' v' : Wd, f_X2_markOf (nI c) w = some (nI (lkS (RM v) c).1, w') ∧ f_X6_looksAt (nI (pos c)) v = some v' ∧ FrC w w' ∧ CK w' ∧ FrL v v' ∧ lkAt v' (lkS (RM v) c) ∧ Sim w' v' ∧ RM v' = RM v := by
  obtain ⟨w', e1, hF, hk, -⟩ := c_mark (Sim_VC h) h.2.2.1 hc
  obtain ⟨v', e2, hL, hl⟩ := m_looks h.2.1 hc
  rw [h.1] at e1
  exact ⟨w', v', e1, e2, hF, hk, hL, hl, Sim_fr h hF hk (FrM.L hL), FrL_RM hL⟩
theorem s_mark {w v : Wd} (h : Sim w v) (e x y : Int32) : Ag (f_X5_mark e x y w) (f_X6_mark e x y v) := by
  unfold f_X5_mark f_X6_mark f_X5_mark_b36
  simp only [bd]
  rcases cell_c h e x y with ⟨c, ec, hok, hp, hc, e1, e2⟩ | ⟨e1, hp, hok⟩
  · obtain ⟨w', v', a1, a2, -, -, -, hl, hs, -⟩ := both_look h hc
    rw [hp, e1, bind_s, bind_s, if_pos (nI_pos' (by omega)), if_neg one0, e2, bind_s, a1, a2, bind_s]
    exact Ag_same hs _ rfl (by rw [hl.1])
  · rw [hp, e1, bind_s, bind_s, if_neg (by decide), if_pos rfl]
    exact Ag_bad h rfl rfl
theorem mk_0 {r : Row} {c : Nat} : (nI (lkS r c).1 = 0) ↔ (lkS r c).1 = 0 := c_eq0 (by have := lk_le r c; omega)
theorem mk_4 {r : Row} {c : Nat} : (nI (lkS r c).1 = 4) ↔ (lkS r c).1 = 4 := c_eql (by decide) (by have := lk_le r c; omega)
theorem s_wraps {w v : Wd} (h : Sim w v) (e x y k : Int32) : Ag (f_X5_wraps e x y k w) (f_X6_wraps e x y k v) := by
  have hv := h.2.1
  have hr := h.1
  unfold f_X5_wraps f_X6_wraps f_X5_wraps_b65 f_X5_wraps_b27 f_X6_wraps_b55
  simp only [bd]
  rcases rate_c h e x y k with ⟨c, kn, ec, hk, rfl, hok, hp, hc, e1, e2, e3⟩ | ⟨e1, hp | ⟨c, hc, hp, e3⟩⟩
  · obtain ⟨w', v', a1, a2, hF, hck, hL, hl, hs, eR⟩ := both_look h hc
    have hw := VR_w hv hk
    have hw0 : ¬ RM v (2 + kn) = 0 := by rw [hw.1]; exact fun q => by have := (c_eq0 (by omega)).mp q; omega
    have hw1 : (1 : Int32) ≤ RM v (2 + kn) := by rw [hw.1]; exact (c_lle (by omega) (by omega)).mpr (by omega)
    rw [hp, e1, bind_s, bind_s, if_neg (nlt0 (by omega)), e3, bind_s, if_neg one0, if_neg one0, if_pos (i_n (by omega) (by omega)), jlet_eq, n_cl (by omega), RC_w10 hk, hr, a1, bind_s, e2, bind_s, a2, bind_s, hl.1]
    by_cases z : (lkS (RM v) c).1 = 0
    · obtain ⟨w2, d1, d2, d3⟩ := c_dist (Sim_VC hs) hck hc
      rw [hs.1, eR] at d1
      rw [if_pos (mk_0.mpr z), if_pos (mk_0.mpr z), if_pos hw1, d1, bind_s, if_pos hw0, a_la, if_pos (i_n (by omega) (by omega)), n_cl (by omega), RM_at (by omega), eR, if_pos hw0, hl.2.1]
      exact Ag_q hs _ rfl rfl d2 d3 (FrM.rf _)
    · rw [if_neg (fun q => z (mk_0.mp q)), if_neg (fun q => z (mk_0.mp q))]
      exact Ag_no hs rfl rfl
  · rw [hp, e1, bind_s, bind_s, if_pos m1lt, if_pos rfl]
    exact Ag_bad h rfl rfl
  · rw [hp, e1, bind_s, bind_s, if_neg (nlt0 (by omega)), e3, bind_s, if_pos rfl, if_pos rfl]
    exact Ag_bad h rfl rfl
theorem k00 : ((0 : Int32) = 0) = True := by decide
theorem k10 : ((1 : Int32) = 0) = False := by decide
theorem k0 : (nI 0 = 0) = True := by decide
theorem k1 : (nI 1 = 0) = False := by decide
theorem k2 : (nI 2 = 0) = False := by decide
theorem k3 : (nI 3 = 0) = False := by decide
theorem k11 : (nI 1 = 1) = True := by decide
theorem k12 : (nI 1 = 2) = False := by decide
theorem k13 : (nI 1 = 3) = False := by decide
theorem k21 : (nI 2 = 1) = False := by decide
theorem k22 : (nI 2 = 2) = True := by decide
theorem k23 : (nI 2 = 3) = False := by decide
theorem k31 : (nI 3 = 1) = False := by decide
theorem k32 : (nI 3 = 2) = False := by decide
theorem k33 : (nI 3 = 3) = True := by decide
theorem s_cell {w v : Wd} (h : Sim w v) (e x y k : Int32) : Ag (f_X5_cell e x y k w) (f_X6_cell e x y k v) := by
  have hv := h.2.1
  have hr := h.1
  unfold f_X5_cell f_X6_cell f_X5_cell_b27 f_X6_cell_b20 f_X5_cell_b100 f_X5_cell_b126 f_X5_cell_b152 f_X5_cell_b178 f_X6_cell_b89 f_X6_cell_b146
  simp only [bd]
  rcases cell_c h e x y with ⟨c, ec, hok, hp, hc, e1, e2⟩ | ⟨e1, hp, hok⟩
  · rw [hp, e1, bind_s, bind_s, if_neg (nlt0 (by omega)), if_neg one0]
    rcases rng_c k 3 (by decide) with ⟨n, hn, rfl, e4, e5⟩ | ⟨e4, e5⟩
    · have hn' : n ≤ 3 := hn
      obtain ⟨w', v', a1, a2, hF, hck, hL, hl, hs, eR⟩ := both_look h hc
      rw [e4, e5, bind_s, bind_s, if_neg one0, if_neg one0, e2, bind_s, a1, a2, bind_s, bind_s, hl.1]
      rcases (by omega : n = 0 ∨ n = 1 ∨ n = 2 ∨ n = 3) with rfl | rfl | rfl | rfl
      · simp only [k00, k10, k0, if_true, if_false]
        by_cases z : (lkS (RM v) c).1 = 0
        · obtain ⟨w2, d1, d2, d3⟩ := c_dist (Sim_VC hs) hck hc
          rw [hs.1, eR] at d1
          rw [if_pos (mk_0.mpr z), if_pos (mk_0.mpr z), d1, hl.2.1]
          exact Ag_q hs _ rfl rfl d2 d3 (FrM.rf _)
        · rw [if_neg (fun q => z (mk_0.mp q)), if_neg (fun q => z (mk_0.mp q))]
          exact Ag_no hs rfl rfl
      · simp only [k1, k11, k12, k13, k10, k00, if_true, if_false]
        by_cases z : (lkS (RM v) c).1 = 4
        · obtain ⟨w2, d1, d2, d3⟩ := c_near (Sim_VC hs) hck hc (by rw [hs.1, eR]; exact z)
          rw [hs.1, eR] at d1
          rw [if_pos (mk_4.mpr z), if_pos (mk_4.mpr z), d1, hl.2.2.1]
          exact Ag_q hs _ rfl rfl d2 d3 (FrM.rf _)
        · rw [if_neg (fun q => z (mk_4.mp q)), if_neg (fun q => z (mk_4.mp q))]
          exact Ag_no hs rfl rfl
      · simp only [k2, k21, k22, k23, k10, k00, if_true, if_false]
        by_cases z : (lkS (RM v) c).1 = 4
        · obtain ⟨w2, d1, d2, d3⟩ := c_beyond (Sim_VC hs) hck hc (by rw [hs.1, eR]; exact z)
          rw [hs.1, eR] at d1
          rw [if_pos (mk_4.mpr z), if_pos (mk_4.mpr z), d1, hl.2.2.2]
          exact Ag_q hs _ rfl rfl d2 d3 (FrM.rf _)
        · rw [if_neg (fun q => z (mk_4.mp q)), if_neg (fun q => z (mk_4.mp q))]
          exact Ag_no hs rfl rfl
      · simp only [k3, k31, k32, k33, k10, k00, if_true, if_false]
        by_cases z : (lkS (RM v) c).1 = 0
        · rw [if_pos (mk_0.mpr z), if_pos (mk_0.mpr z)]
          exact Ag_no hs rfl rfl
        · obtain ⟨w2, d1, d2, d3⟩ := c_filled (Sim_VC hs) hck (e := e) (x := x) (y := y) (by rw [hs.1, eR]; exact hok)
          obtain ⟨v2, g1, g2⟩ := m_filled hs.2.1 (e := e) (x := x) (y := y) (by rw [eR]; exact hok)
          rw [hs.1] at d1
          rw [if_neg (fun q => z (mk_0.mp q)), if_neg (fun q => z (mk_0.mp q)), d1, g1]
          exact Ag_q hs _ rfl rfl d2 d3 (FrM.F g2)
    · rw [e4, e5, bind_s, bind_s, if_pos rfl, if_pos rfl]
      exact Ag_bad h rfl rfl
  · rw [hp, e1, bind_s, bind_s, if_pos m1lt, if_pos rfl]
    exact Ag_bad h rfl rfl
/-- how far a cell moved -/
def shS (r : Row) (a b : Nat) : Int32 := if (lkS r a).1 = 0 ∧ (lkS r b).1 = 0 then enc (lkS r b).2.1 - enc (lkS r a).2.1 else -10001
theorem lk_e0 {r : Row} (hv : VR r) {c : Nat} : (enc (lkS r c).2.1 = -10001) ↔ ¬ (lkS r c).1 = 0 := by
  rw [enc_eq (fun n hn => by have := lk_dlt hv hn; omega)]
  by_cases z : (lkS r c).1 = 0
  · obtain ⟨b, hb⟩ := lk_dist.1 z
    rw [hb]
    exact ⟨fun q => (by cases q), fun q => absurd z q⟩
  · exact ⟨fun _ => z, fun _ => lk_dist.2 z⟩
theorem lk_eN {r : Row} (hv : VR r) {c : Nat} (h : (lkS r c).1 = 0) : ∃ b : Nat, b ≤ 9999 ∧ enc (lkS r c).2.1 = nI b := by
  obtain ⟨b, hb⟩ := lk_dist.1 h
  refine ⟨b, lk_dlt hv hb, ?_⟩
  rw [hb]
  rfl
theorem c_shift {w : Wd} (hv : VR (RC w 10)) (hk : CK w) {a b : Nat} (ha : a < 32) (hb : b < 32) : ∃ w' : Wd, f_X2_shift (nI a) (nI b) w = some (shS (RC w 10) a b, w') ∧ FrC w w' ∧ CK w' := by
  unfold f_X2_shift f_X2_shift_b16 shS
  obtain ⟨w1, e1, f1, k1, -⟩ := c_mark hv hk ha
  have r1 := FrC_RC f1
  have v1 : VR (RC w1 10) := by rw [r1]; exact hv
  rw [e1, bind_s]
  dsimp only
  by_cases za : (lkS (RC w 10) a).1 = 0
  · rw [if_pos (mk_0.mpr za)]
    obtain ⟨w2, e2, f2, k2, -⟩ := c_mark v1 k1 hb
    rw [e2, bind_s]
    dsimp only
    rw [r1]
    by_cases zb : (lkS (RC w 10) b).1 = 0
    · have r2 := FrC_RC f2
      obtain ⟨w3, e3, f3, k3⟩ := c_dist (w := w2) (c := b) (by rw [r2]; exact v1) k2 hb
      have r3 := FrC_RC f3
      obtain ⟨w4, e4, f4, k4⟩ := c_dist (w := w3) (c := a) (by rw [r3, r2]; exact v1) k3 ha
      rw [if_pos (mk_0.mpr zb), e3, bind_s]
      dsimp only
      rw [e4, bind_s, if_pos ⟨za, zb⟩, r3, r2, r1]
      exact ⟨w4, rfl, ((f1.tr f2).tr f3).tr f4, k4⟩
    · rw [if_neg (fun q => zb (mk_0.mp q)), if_neg (fun q => zb q.2)]
      exact ⟨w2, rfl, f1.tr f2, k2⟩
  · rw [if_neg (fun q => za (mk_0.mp q)), if_neg (fun q => za q.1)]
    exact ⟨w1, rfl, f1, k1⟩
theorem m_motion {v : Wd} (hv : VR (RM v)) {x y : Int32} (hok : okC (RM v) 0 x y) : ∃ v' : Wd, f_X6_motionOf x y v = some (shS (RM v) (cNo 0 x y) (cNo 1 x y), v') ∧ FrL v v' := by
  have hok1 : okC (RM v) 1 x y := ⟨⟨by decide, by decide⟩, hok.2⟩
  obtain ⟨p0, c0⟩ := m_placeC hv hok
  obtain ⟨p1, c1⟩ := m_placeC hv hok1
  obtain ⟨v1, e1, f1, l1⟩ := m_looks hv c0
  have r1 := FrL_RM f1
  obtain ⟨v2, e2, f2, l2⟩ := m_looks (w := v1) (by rw [r1]; exact hv) c1
  unfold f_X6_motionOf f_X6_motionOf_b42 f_X6_motionOf_b54 shS
  rw [p0, bind_s, e1, bind_s, jlet_eq, p1, bind_s, e2, bind_s, l1.2.1, l2.2.1, r1]
  by_cases za : (lkS (RM v) (cNo 0 x y)).1 = 0
  · rw [if_neg (fun q => (lk_e0 hv).mp q za)]
    by_cases zb : (lkS (RM v) (cNo 1 x y)).1 = 0
    · rw [if_neg (fun q => (lk_e0 hv).mp q zb), if_pos ⟨za, zb⟩]
      exact ⟨v2, rfl, f1.tr f2⟩
    · rw [if_pos ((lk_e0 hv).mpr zb), if_neg (fun q => zb q.2)]
      exact ⟨v2, rfl, f1.tr f2⟩
  · rw [if_pos ((lk_e0 hv).mpr za), if_neg (fun q => za q.1)]
    exact ⟨v2, rfl, f1.tr f2⟩
theorem s_motion {w v : Wd} (h : Sim w v) (x y : Int32) : Ag (f_X5_motion x y w) (f_X6_motion x y v) := by
  have hv := h.2.1
  have hr := h.1
  unfold f_X5_motion f_X6_motion f_X5_motion_b32 f_X5_motion_b72 f_X6_motion_b37
  simp only [bd]
  rcases cell_c h 0 x y with ⟨c, ec, hok, hp, hc, e1, e2⟩ | ⟨e1, hp, hok⟩
  · rcases cell_c h 1 x y with ⟨c', ec', hok', hp', hc', -, -⟩ | ⟨-, -, hok'⟩
    · obtain ⟨w1, f1, f2, f3⟩ := c_shift (Sim_VC h) h.2.2.1 hc hc'
      obtain ⟨v1, g1, g2⟩ := m_motion hv hok
      have hs := Sim_fr h f2 f3 (FrM.L g2)
      rw [hr] at f1
      rw [hp, hp', e1, bind_s, bind_s, bind_s, if_neg (nlt0 (by omega)), if_pos (nI_pos' (by omega)), if_neg one0, f1, bind_s, g1, bind_s, ec, ec']
      by_cases z : shS (RM v) (cNo 0 x y) (cNo 1 x y) = -10001
      · rw [if_pos z, if_pos z]
        exact Ag_no hs rfl rfl
      · rw [if_neg z, if_neg z]
        exact Ag_same hs _ rfl rfl
    · exact absurd ⟨⟨by decide, by decide⟩, hok.2⟩ hok'
  · rcases cell_c h 1 x y with ⟨c', ec', hok', hp', hc', -, -⟩ | ⟨-, hp', hok'⟩
    · exact absurd ⟨⟨by decide, by decide⟩, hok'.2⟩ hok
    · rw [hp, hp', e1, bind_s, bind_s, bind_s, if_pos m1lt, if_pos rfl]
      exact Ag_bad h rfl rfl
