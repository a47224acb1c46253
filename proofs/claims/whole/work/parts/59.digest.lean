/-! THE DIGEST -/
def mx (h x : Int64) : Int64 := 31 * h + x
def cellH (r : Row) (e x y : Nat) (h : Int64) : Int64 :=
  let c := 16 * e + 4 * y + x
  let h2 := mx (foldN (fun j s => mx s (r (pos c + j)).toInt64) 12 0 h) (nI (lkS r c).1).toInt64
  if (lkS r c).1 = 0 then mx h2 (enc (lkS r c).2.1).toInt64
  else mx (if (lkS r c).1 = 4 then mx (mx h2 (enc (lkS r c).2.2.1).toInt64) (enc (lkS r c).2.2.2).toInt64 else h2) (filS r (nI e) (nI x) (nI y)).toInt64
def cellsH (r : Row) (e W : Nat) (n : Nat) (h : Int64) : Int64 := foldN (fun i s => cellH r e (i % W) (i / W) s) n 0 h
theorem cells_s (r : Row) (e : Nat) {W y x : Nat} (hx : x < W) (h : Int64) : cellsH r e W (y * W + x + 1) h = cellH r e x y (cellsH r e W (y * W + x) h) := by
  unfold cellsH
  rw [foldN_succ, Nat.zero_add]
  show cellH r e ((y * W + x) % W) ((y * W + x) / W) _ = _
  rw [Nat.mul_comm, Nat.mul_add_div (by omega), Nat.mul_add_mod, Nat.mod_eq_of_lt hx, Nat.div_eq_of_lt hx, Nat.add_zero]
theorem c_dcell {w : Wd} (hv : VR (RC w 10)) (hk : CK w) {e x y : Nat} (he : e < 2) (hx : x < tn (RC w 10 0)) (hy : y < tn (RC w 10 1)) (h : Int64) : ∃ w' : Wd, f_X5_digestCell h (nI e) (nI x) (nI y) w = some (cellH (RC w 10) e x y h, w') ∧ FrC w w' ∧ CK w' := by
  have a0 := VR_0 hv
  have a1 := VR_1 hv
  have hok := okC_of hv he hx hy
  unfold f_X5_digestCell cellH
  rw [c_pl2 hv he hx hy, bind_s]
  obtain ⟨c, hc⟩ : ∃ c, 16 * e + 4 * y + x = c := ⟨_, rfl⟩
  rw [hc]
  have hc32 : c < 32 := by omega
  obtain ⟨⟨h1, w1⟩, b1, b2, b3⟩ := loop2 (fun k (s : Int64 × Wd) y' => f_X5_digestCell_b20 (nI e) (nI x) (nI y) (nI c) k s.1 y' s.2) (fun k y' j (s : Int64 × Wd) x' => f_X5_digestCell_b29 (nI e) (nI x) (nI y) (nI c) y' (fun q i u => k (q, u) i) j s.1 x' s.2) (fun s => f_X5_digestCell_b20 (nI e) (nI x) (nI y) (nI c) 1 s.1 (nI 3) s.2) 4 3
    (fun k i s => s.2 = w ∧ s.1 = foldN (fun j s => mx s (RC w 10 (pos c + j)).toInt64) (k * 4 + i) 0 h) (by omega) (by omega)
    (fun n k s hk hI => by
      show f_X5_digestCell_b20 (nI e) (nI x) (nI y) (nI c) (n + 1) s.1 (nI k) s.2 = f_X5_digestCell_b29 (nI e) (nI x) (nI y) (nI c) (nI k) (f_X5_digestCell_b20 (nI e) (nI x) (nI y) (nI c) n) FUEL s.1 0 s.2
      rw [f_X5_digestCell_b20, if_neg (fun q => by have := (c_lle (by decide) (by omega)).mp q; omega)])
    (fun n s hI => by
      show f_X5_digestCell_b20 (nI e) (nI x) (nI y) (nI c) (n + 1) s.1 (nI 3) s.2 = f_X5_digestCell_b20 (nI e) (nI x) (nI y) (nI c) (0 + 1) s.1 (nI 3) s.2
      rw [f_X5_digestCell_b20, f_X5_digestCell_b20, if_pos (by decide), if_pos (by decide)])
    (fun kk n k i s hk hi hI => by
      refine ⟨(mx (foldN (fun j s => mx s (RC w 10 (pos c + j)).toInt64) (k * 4 + i) 0 h) (RC w 10 (pos c + (k * 4 + i))).toInt64, w), ⟨rfl, ?_⟩, ?_⟩
      · show mx _ _ = _
        rw [← Nat.add_assoc (k * 4) i 1, foldN_succ, Nat.zero_add]
      · show f_X5_digestCell_b29 (nI e) (nI x) (nI y) (nI c) (nI k) _ (n + 1) s.1 (nI i) s.2 = f_X5_digestCell_b29 (nI e) (nI x) (nI y) (nI c) (nI k) _ n _ (nI (i + 1)) w
        rw [f_X5_digestCell_b29, if_neg (fun q => by have := (c_lle (by decide) (by omega)).mp q; omega), hI.1, c_sample hc32 hk hi, bind_s, hI.2, a_al, show pos c + 4 * k + i = pos c + (k * 4 + i) by omega]
        rfl)
    (fun kk n k s hk hI => by
      refine ⟨⟨hI.1, by rw [← lin_e]; exact hI.2⟩, ?_⟩
      show f_X5_digestCell_b29 (nI e) (nI x) (nI y) (nI c) (nI k) _ (n + 1) s.1 (nI 4) s.2 = _
      rw [f_X5_digestCell_b29, if_pos (by decide), a_al])
    (h, w) ⟨rfl, rfl⟩
  obtain rfl : w1 = w := b2
  have e1 : h1 = foldN (fun j s => mx s (RC w1 10 (pos c + j)).toInt64) 12 0 h := b3
  rw [show f_X5_digestCell_b20 (nI e) (nI x) (nI y) (nI c) FUEL h 0 w1 = _ from b1]
  show ∃ w', f_X5_digestCell_b20 (nI e) (nI x) (nI y) (nI c) (0 + 1) h1 (nI 3) w1 = _ ∧ _
  rw [f_X5_digestCell_b20, if_pos (by decide), e1]
  obtain ⟨w2, m1, m2, m3, -⟩ := c_mark hv hk hc32
  have r2 := FrC_RC m2
  have v2 : VR (RC w2 10) := by rw [r2]; exact hv
  rw [m1, bind_s, jlet_eq]
  dsimp only
  unfold f_X5_digestCell_b160
  by_cases z : (lkS (RC w1 10) c).1 = 0
  · obtain ⟨w3, d1, d2, d3⟩ := c_dist v2 m3 hc32
    rw [r2] at d1
    rw [if_pos (mk_0.mpr z), if_pos z, d1, bind_s]
    exact ⟨w3, rfl, m2.tr d2, d3⟩
  · rw [if_neg (fun q => z (mk_0.mp q)), if_neg z]
    by_cases z4 : (lkS (RC w1 10) c).1 = 4
    · obtain ⟨w3, d1, d2, d3⟩ := c_near v2 m3 hc32 (by rw [r2]; exact z4)
      have r3 := FrC_RC d2
      obtain ⟨w4, f1, f2, f3⟩ := c_beyond (w := w3) (by rw [r3]; exact v2) d3 hc32 (by rw [r3, r2]; exact z4)
      have r4 := FrC_RC f2
      obtain ⟨w5, g1, g2, g3⟩ := c_filled (w := w4) (by rw [r4, r3]; exact v2) f3 (e := nI e) (x := nI x) (y := nI y) (by rw [r4, r3, r2]; exact hok)
      rw [r2] at d1
      rw [r3, r2] at f1
      rw [r4, r3, r2] at g1
      rw [if_pos (mk_4.mpr z4), if_pos z4, d1, bind_s, jlet_eq]
      dsimp only
      rw [f1, bind_s, jlet_eq]
      dsimp only
      rw [g1, bind_s]
      exact ⟨w5, rfl, ((m2.tr d2).tr f2).tr g2, g3⟩
    · obtain ⟨w5, g1, g2, g3⟩ := c_filled (w := w2) v2 m3 (e := nI e) (x := nI x) (y := nI y) (by rw [r2]; exact hok)
      rw [r2] at g1
      rw [if_neg (fun q => z4 (mk_4.mp q)), if_neg z4, g1, bind_s]
      exact ⟨w5, rfl, m2.tr g2, g3⟩
theorem m_mix (x : Int64) (v : Wd) : f_X6_mix x v = some (wlong v (mx v.2 x)) := rfl
def FrD (w v : Wd) : Prop := (∀ c, c ≠ 0 → c ≠ 6 → v.1 c = w.1 c) ∧ (∀ k, (k < 7 ∨ (13 < k ∧ k < 18) ∨ 20 < k) → v.1 0 k = w.1 0 k)
theorem FrD.rf (w : Wd) : FrD w w := ⟨fun _ _ _ => rfl, fun _ _ => rfl⟩
theorem FrD.tr {w v u : Wd} (h1 : FrD w v) (h2 : FrD v u) : FrD w u := ⟨fun c a b => (h2.1 c a b).trans (h1.1 c a b), fun k a => (h2.2 k a).trans (h1.2 k a)⟩
theorem FrD.F {w v : Wd} (h : FrF w v) : FrD w v := ⟨h.1, h.2.1⟩
theorem FrD.l {w v : Wd} (h : FrD w v) (x : Int64) : FrD w (wlong v x) := h
theorem FrD_RM {w v : Wd} (h : FrD w v) : RM v = RM w := by
  funext k
  unfold RM
  rw [h.1 1 (by decide) (by decide)]
theorem m_dcell {v : Wd} (hv : VR (RM v)) {e x y : Nat} (he : e < 2) (hx : x < tn (RM v 0)) (hy : y < tn (RM v 1)) (ha : alAt v (4 * y + x) (lkS (RM v) (16 * e + 4 * y + x))) (kk : Int32 → Wd → Option Wd) : ∃ v' : Wd, f_X6_mixCells_b40 (nI e) (nI y) (nI x) (nI (pos (16 * e + 4 * y + x))) kk FUEL 0 v = kk (nI (x + 1)) v' ∧ FrD v v' ∧ v'.2 = cellH (RM v) e x y v.2 := by
  have a0 := VR_0 hv
  have a1 := VR_1 hv
  have hok := okC_of hv he hx hy
  unfold cellH
  dsimp only
  obtain ⟨c, hc⟩ : ∃ c, 16 * e + 4 * y + x = c := ⟨_, rfl⟩
  rw [hc] at ha ⊢
  have hc32 : c < 32 := by omega
  have hpb : ∀ j, j < 12 → pos c + j < 395 := fun j hj => by unfold pos; omega
  obtain ⟨v1, b1, b2, b3⟩ := loopG (fun n (s : Wd) i => f_X6_mixCells_b40 (nI e) (nI y) (nI x) (nI (pos c)) kk n i s) (fun s => f_X6_mixCells_b40 (nI e) (nI y) (nI x) (nI (pos c)) kk 1 (nI 12) s) 12 (fun j s => s.1 = v.1 ∧ s.2 = foldN (fun j s => mx s (RM v (pos c + j)).toInt64) j 0 v.2) (by omega)
    (fun n s hI => by
      show f_X6_mixCells_b40 (nI e) (nI y) (nI x) (nI (pos c)) kk (n + 1) (nI 12) s = f_X6_mixCells_b40 (nI e) (nI y) (nI x) (nI (pos c)) kk (0 + 1) (nI 12) s
      rw [f_X6_mixCells_b40, f_X6_mixCells_b40, if_pos (by decide), if_pos (by decide)])
    (fun n j s hj hI => by
      have hb := hpb j hj
      refine ⟨wlong s (mx s.2 (RM v (pos c + j)).toInt64), ⟨hI.1, ?_⟩, ?_⟩
      · show mx s.2 _ = _
        rw [foldN_succ, Nat.zero_add, hI.2]
      · show f_X6_mixCells_b40 (nI e) (nI y) (nI x) (nI (pos c)) kk (n + 1) (nI j) s = f_X6_mixCells_b40 (nI e) (nI y) (nI x) (nI (pos c)) kk n (nI (j + 1)) _
        rw [f_X6_mixCells_b40, if_neg (fun q => by have := (c_lle (by decide) (by omega)).mp q; omega), nI_add, if_pos (i_n hb (by omega)), n_cl (by omega), hI.1, RM_at hb, m_mix, bind_s, a_al]) v ⟨rfl, rfl⟩
  rw [show f_X6_mixCells_b40 (nI e) (nI y) (nI x) (nI (pos c)) kk FUEL 0 v = _ from b1]
  show ∃ v', f_X6_mixCells_b40 (nI e) (nI y) (nI x) (nI (pos c)) kk (0 + 1) (nI 12) v1 = _ ∧ _
  rw [f_X6_mixCells_b40, if_pos (by decide), a_lm, nI_add, jlet_eq, if_pos (i_n (by omega) (by omega)), n_cl (by omega), b2, ha.1, m_mix, bind_s, ← b3]
  obtain ⟨v2, hv2⟩ : ∃ v2, v2 = wlong v1 (mx v1.2 (nI (lkS (RM v) c).1).toInt64) := ⟨_, rfl⟩
  have h21 : v2.1 = v.1 := by rw [hv2]; exact b2
  have h22 : v2.2 = mx v1.2 (nI (lkS (RM v) c).1).toInt64 := by rw [hv2]; rfl
  rw [← hv2, if_pos (i_n (by omega) (by omega)), h21, ha.1]
  have fr2 : FrD v v2 := ⟨fun a _ _ => by rw [h21], fun k _ => by rw [h21]⟩
  unfold f_X6_mixCells_b159 f_X6_mixCells_b147
  by_cases z : (lkS (RM v) c).1 = 0
  · rw [if_pos (mk_0.mpr z), if_pos z, if_pos (i_n (by omega) (by omega)), ha.2.1, m_mix, bind_s, a_al]
    exact ⟨_, rfl, fr2, by rw [← h22]; rfl⟩
  · rw [if_neg (fun q => z (mk_0.mp q)), if_neg z, if_pos (i_n (by omega) (by omega))]
    unfold f_X6_mixCells_b159
    by_cases z4 : (lkS (RM v) c).1 = 4
    · rw [if_pos (mk_4.mpr z4), if_pos z4, if_pos (i_n (by omega) (by omega)), ha.2.2.1, m_mix, bind_s, if_pos (i_n (by omega) (by omega)), wlong_1, h21, ha.2.2.2, m_mix, bind_s]
      obtain ⟨v3, hv3⟩ : ∃ v3, v3 = wlong (wlong v2 (mx v2.2 (enc (lkS (RM v) c).2.2.1).toInt64)) (mx (wlong v2 (mx v2.2 (enc (lkS (RM v) c).2.2.1).toInt64)).2 (enc (lkS (RM v) c).2.2.2).toInt64) := ⟨_, rfl⟩
      rw [← hv3]
      have fr3 : FrD v v3 := by rw [hv3]; exact fr2
      have h32 : v3.2 = mx (mx v2.2 (enc (lkS (RM v) c).2.2.1).toInt64) (enc (lkS (RM v) c).2.2.2).toInt64 := by rw [hv3]; rfl
      obtain ⟨v4, g1, g2⟩ := m_filled (w := v3) (by rw [FrD_RM fr3]; exact hv) (e := nI e) (x := nI x) (y := nI y) (by rw [FrD_RM fr3]; exact hok)
      rw [FrD_RM fr3] at g1
      rw [g1, bind_s]
      dsimp only
      rw [m_mix, bind_s, a_al]
      exact ⟨_, rfl, (fr3.tr (FrD.F g2)).l _, by rw [wlong_2, g2.2.2, h32, h22]⟩
    · rw [if_neg (fun q => z4 (mk_4.mp q)), if_neg z4]
      obtain ⟨v4, g1, g2⟩ := m_filled (w := v2) (by rw [FrD_RM fr2]; exact hv) (e := nI e) (x := nI x) (y := nI y) (by rw [FrD_RM fr2]; exact hok)
      rw [FrD_RM fr2] at g1
      rw [g1, bind_s]
      dsimp only
      rw [m_mix, bind_s, a_al]
      exact ⟨_, rfl, (fr2.tr (FrD.F g2)).l _, by rw [wlong_2, g2.2.2, h22]⟩
theorem c_cells {w : Wd} (hv : VR (RC w 10)) (hk : CK w) {e : Nat} (he : e < 2) (h : Int64) (kk : Int64 → Int32 → Wd → Option (Int64 × Wd)) : ∃ w' : Wd, f_X5_digest_b70 (nI e) kk FUEL h 0 w = kk (cellsH (RC w 10) e (tn (RC w 10 0)) (tn (RC w 10 1) * tn (RC w 10 0)) h) (nI (e + 1)) w' ∧ FrC w w' ∧ CK w' := by
  obtain ⟨r, hr⟩ : ∃ r, RC w 10 = r := ⟨_, rfl⟩
  rw [hr] at hv ⊢
  obtain ⟨W, tW, a0⟩ : ∃ W, tn (r 0) = W ∧ (r 0 = nI W ∧ 1 ≤ W ∧ W ≤ 4) := ⟨_, rfl, VR_0 hv⟩
  obtain ⟨H, tH, a1⟩ : ∃ H, tn (r 1) = H ∧ (r 1 = nI H ∧ 1 ≤ H ∧ H ≤ 4) := ⟨_, rfl, VR_1 hv⟩
  rw [tW, tH]
  obtain ⟨⟨h1, w1⟩, c1, c2, c3, c4⟩ := loop2 (fun k (s : Int64 × Wd) y => f_X5_digest_b70 (nI e) kk k s.1 y s.2) (fun k y j (s : Int64 × Wd) x => f_X5_digest_b85 (nI e) y (fun q i u => k (q, u) i) j s.1 x s.2) (fun s => kk s.1 (nI (e + 1)) s.2) W H
    (fun y x s => FrC w s.2 ∧ CK s.2 ∧ s.1 = cellsH r e W (y * W + x) h) (by omega) (by omega)
    (fun k y s hy hI => by
      show f_X5_digest_b70 (nI e) kk (k + 1) s.1 (nI y) s.2 = f_X5_digest_b85 (nI e) (nI y) (f_X5_digest_b70 (nI e) kk k) FUEL s.1 0 s.2
      rw [f_X5_digest_b70, hI.1.1 10 (by omega), RC_1 w 10, hr, a1.1, if_neg (fun q => by have := (c_le (by omega) (by omega)).mp q; omega)])
    (fun k s hI => by
      show f_X5_digest_b70 (nI e) kk (k + 1) s.1 (nI H) s.2 = _
      rw [f_X5_digest_b70, hI.1.1 10 (by omega), RC_1 w 10, hr, a1.1, if_pos (Int32.le_refl _), a_al])
    (fun k j y x s hy hx hI => by
      have eC : RC s.2 10 = r := by rw [FrC_RC hI.1, hr]
      obtain ⟨s1, l1, l2, l3⟩ := c_dcell (w := s.2) (by rw [eC]; exact hv) hI.2.1 he (x := x) (y := y) (by rw [eC, tW]; exact hx) (by rw [eC, tH]; exact hy) s.1
      rw [eC] at l1
      refine ⟨(cellH r e x y s.1, s1), ⟨hI.1.tr l2, l3, by rw [← Nat.add_assoc, cells_s _ _ hx, ← hI.2.2]⟩, ?_⟩
      show f_X5_digest_b85 (nI e) (nI y) _ (j + 1) s.1 (nI x) s.2 = f_X5_digest_b85 (nI e) (nI y) _ j _ (nI (x + 1)) s1
      rw [f_X5_digest_b85, hI.1.1 10 (by omega), RC_0 w 10, hr, a0.1, if_neg (fun q => by have := (c_le (by omega) (by omega)).mp q; omega), l1, bind_s, a_al])
    (fun k j y s hy hI => by
      refine ⟨⟨hI.1, hI.2.1, by rw [← lin_e]; exact hI.2.2⟩, ?_⟩
      show f_X5_digest_b85 (nI e) (nI y) _ (j + 1) s.1 (nI W) s.2 = _
      rw [f_X5_digest_b85, hI.1.1 10 (by omega), RC_0 w 10, hr, a0.1, if_pos (Int32.le_refl _), a_al])
    (h, w) ⟨FrC.rf w, hk, by rw [Nat.zero_mul]; rfl⟩
  refine ⟨w1, ?_, c2, c3⟩
  rw [show f_X5_digest_b70 (nI e) kk FUEL h 0 w = _ from c1]
  show kk h1 _ w1 = _
  rw [show h1 = cellsH r e W (H * W + 0) h from c4, Nat.add_zero]
theorem m_cells {v : Wd} (hv : VR (RM v)) {e : Nat} (he : e < 2) : ∃ v' : Wd, f_X6_mixCells (nI e) v = some v' ∧ FrM v v' ∧ v'.2 = cellsH (RM v) e (tn (RM v 0)) (tn (RM v 1) * tn (RM v 0)) v.2 := by
  obtain ⟨v1, b1, b2, b3⟩ := m_all hv he
  have eR := FrA_RM b2
  unfold f_X6_mixCells
  rw [b1, bind_s]
  obtain ⟨r, hr⟩ : ∃ r, RM v = r := ⟨_, rfl⟩
  rw [hr] at hv b3 eR ⊢
  obtain ⟨W, tW, a0⟩ : ∃ W, tn (r 0) = W ∧ (r 0 = nI W ∧ 1 ≤ W ∧ W ≤ 4) := ⟨_, rfl, VR_0 hv⟩
  obtain ⟨H, tH, a1⟩ : ∃ H, tn (r 1) = H ∧ (r 1 = nI H ∧ 1 ≤ H ∧ H ≤ 4) := ⟨_, rfl, VR_1 hv⟩
  rw [tW, tH]
  obtain ⟨v2, c1, c2, c3⟩ := loop2 (fun k (s : Wd) y => f_X6_mixCells_b7 (nI e) k y s) (fun k y j (s : Wd) x => f_X6_mixCells_b19 (nI e) y (fun i u => k u i) j x s) (fun s => some s) W H
    (fun y x s => FrD v1 s ∧ s.2 = cellsH r e W (y * W + x) v.2) (by omega) (by omega)
    (fun k y s hy hI => by
      show f_X6_mixCells_b7 (nI e) (k + 1) (nI y) s = f_X6_mixCells_b19 (nI e) (nI y) (f_X6_mixCells_b7 (nI e) k) FUEL 0 s
      rw [f_X6_mixCells_b7, if_pos (by decide), show ((1 : Int32).toNatClampNeg) = 1 from rfl, RM_at (by omega), FrD_RM hI.1, eR, a1.1, if_neg (fun q => by have := (c_le (by omega) (by omega)).mp q; omega)])
    (fun k s hI => by
      show f_X6_mixCells_b7 (nI e) (k + 1) (nI H) s = _
      rw [f_X6_mixCells_b7, if_pos (by decide), show ((1 : Int32).toNatClampNeg) = 1 from rfl, RM_at (by omega), FrD_RM hI.1, eR, a1.1, if_pos (Int32.le_refl _)])
    (fun k j y x s hy hx hI => by
      have eS : RM s = r := by rw [FrD_RM hI.1, eR]
      have al := b3 y x (by rw [tH]; exact hy) (by rw [tW]; exact hx)
      obtain ⟨s1, l1, l2, l3⟩ := m_dcell (v := s) (by rw [eS]; exact hv) he (x := x) (y := y) (by rw [eS, tW]; exact hx) (by rw [eS, tH]; exact hy) (by
        rw [eS]
        unfold alAt at al ⊢
        rw [hI.1.1 7 (by decide) (by decide), hI.1.1 8 (by decide) (by decide), hI.1.1 9 (by decide) (by decide), hI.1.1 10 (by decide) (by decide)]
        exact al) (fun i u => f_X6_mixCells_b19 (nI e) (nI y) (fun i u => k u i) j i u)
      rw [eS] at l3
      refine ⟨s1, ⟨hI.1.tr l2, by rw [l3, ← Nat.add_assoc, cells_s _ _ hx, ← hI.2]⟩, ?_⟩
      show f_X6_mixCells_b19 (nI e) (nI y) _ (j + 1) (nI x) s = f_X6_mixCells_b19 (nI e) (nI y) _ j (nI (x + 1)) s1
      rw [f_X6_mixCells_b19, if_pos (by decide), show ((0 : Int32).toNatClampNeg) = 0 from rfl, RM_at (by omega), eS, a0.1, if_neg (fun q => by have := (c_le (by omega) (by omega)).mp q; omega), m_place, bind_s]
      exact l1)
    (fun k j y s hy hI => by
      refine ⟨⟨hI.1, by rw [← lin_e]; exact hI.2⟩, ?_⟩
      show f_X6_mixCells_b19 (nI e) (nI y) _ (j + 1) (nI W) s = _
      rw [f_X6_mixCells_b19, if_pos (by decide), show ((0 : Int32).toNatClampNeg) = 0 from rfl, RM_at (by omega), FrD_RM hI.1, eR, a0.1, if_pos (Int32.le_refl _), a_al])
    v1 ⟨FrD.rf v1, by rw [Nat.zero_mul]; exact b2.2.2⟩
  refine ⟨v2, c1, FrM.tr (FrM.A b2) ⟨c2.1 1 (by decide) (by decide), c2.1 3 (by decide) (by decide), c2.1 4 (by decide) (by decide), c2.1 5 (by decide) (by decide), c2.2 3 (by decide), c2.2 6 (by decide)⟩, ?_⟩
  rw [c3, Nat.add_zero]
def tlS (w : Wd) (n : Nat) : Int32 := (f_X5_tally (nI n) w).getD 0
def hd1 (w : Wd) (n : Nat) : Int64 := foldN (fun i s => mx s (tlS w i).toInt64) n 0 1689
def hd2 (w : Wd) (r : Row) (n : Nat) : Int64 := foldN (fun i s => mx s (r i).toInt64) n 0 (hd1 w 5)
def dgS (w : Wd) (r : Row) : Int64 := mx (mx (cellsH r 1 (tn (r 0)) (tn (r 1) * tn (r 0)) (cellsH r 0 (tn (r 0)) (tn (r 1) * tn (r 0)) (hd2 w r 11))) (mnS r 0)) (mnS r 1)
theorem tl_c {w v : Wd} (h : Sim w v) {n : Nat} (hn : n ≤ 4) : f_X5_tally (nI n) w = some (tlS w n) ∧ f_X6_refusedOf (nI n) v = some (tlS w n) := by
  obtain ⟨x, h1, h2⟩ := tallies h hn
  unfold tlS
  rw [h1]
  exact ⟨rfl, h2⟩
theorem c_setting {w : Wd} {n : Nat} (hn : n ≤ 10) : f_X4_setting (nI n) w = some (RC w 10 n) := by
  unfold f_X4_setting f_X4_setting_b64
  by_cases h0 : n = 0
  · subst h0; rfl
  · rw [if_neg (fun q => h0 ((c_eq0 (by omega)).mp q))]
    by_cases h1 : n = 1
    · subst h1; rfl
    · rw [if_neg (fun q => h1 ((c_eql (by decide) (by omega)).mp q)), jlet_eq, a_sl (by omega)]
      by_cases h2 : n < 5
      · rw [w_t (nI_pos' (by omega)) ((c_lel (by decide) (by omega)).mpr (by omega)), bind_s, if_neg one0, if_pos (i_n (by omega) (by omega)), n_cl (by omega), RC_w10 (by omega), show 2 + (n - 2) = n by omega]
      · rw [w_f (fun q => by have := (c_lel (by decide) (by omega)).mp q.2; omega), bind_s, if_pos rfl, a_sl (by omega), w_t (nI_pos' (by omega)) ((c_lel (by decide) (by omega)).mpr (by omega)), bind_s, if_neg one0, if_pos (i_n (by omega) (by omega)), n_cl (by omega), RC_s10 (by omega), show 5 + (n - 2 - 3) = n by omega]
theorem c_digest {w v : Wd} (h : Sim w v) : ∃ w' : Wd, f_X5_digest w = some (dgS w (RM v), w') ∧ FrC w w' ∧ CK w' := by
  have hv := h.2.1
  have hr := h.1
  unfold f_X5_digest
  obtain ⟨h1, a1, a2⟩ := loopG (fun n (s : Int64) i => f_X5_digest_b6 n s i w) (fun s => f_X5_digest_b32 FUEL s 0 w) 5 (fun j s => s = hd1 w j) (by omega)
    (fun n s hI => by
      show f_X5_digest_b6 (n + 1) s (nI 5) w = _
      rw [f_X5_digest_b6, if_pos (by decide)])
    (fun n j s hj hI => by
      refine ⟨mx s (tlS w j).toInt64, by unfold hd1; rw [foldN_succ, Nat.zero_add, hI]; rfl, ?_⟩
      show f_X5_digest_b6 (n + 1) s (nI j) w = f_X5_digest_b6 n _ (nI (j + 1)) w
      rw [f_X5_digest_b6, if_neg (fun q => by have := (c_llt (by decide) (by omega)).mp q; omega), (tl_c h (n := j) (by omega)).1, bind_s, a_al]
      rfl) 1689 rfl
  obtain ⟨h2, b1, b2⟩ := loopG (fun n (s : Int64) i => f_X5_digest_b32 n s i w) (fun s => f_X5_digest_b62 FUEL s 0 w) 11 (fun j s => s = hd2 w (RM v) j) (by omega)
    (fun n s hI => by
      show f_X5_digest_b32 (n + 1) s (nI 11) w = _
      rw [f_X5_digest_b32, if_pos (by decide)])
    (fun n j s hj hI => by
      refine ⟨mx s (RM v j).toInt64, by unfold hd2; rw [foldN_succ, Nat.zero_add, hI]; rfl, ?_⟩
      show f_X5_digest_b32 (n + 1) s (nI j) w = f_X5_digest_b32 n _ (nI (j + 1)) w
      rw [f_X5_digest_b32, if_neg (fun q => by have := (c_llt (by decide) (by omega)).mp q; omega), c_setting (by omega), bind_s, hr, a_al]
      rfl) h1 a2
  rw [show f_X5_digest_b6 FUEL 1689 0 w = _ from a1, show f_X5_digest_b32 FUEL h1 0 w = _ from b1]
  have F3 : FUEL = 19997 + 1 + 1 + 1 := rfl
  have st : ∀ (n e : Nat) (s : Int64) (u : Wd), e < 2 → f_X5_digest_b62 (n + 1) s (nI e) u = f_X5_digest_b70 (nI e) (f_X5_digest_b62 n) FUEL s 0 u := fun n e s u he => by
    rw [f_X5_digest_b62, if_neg (fun q => by have := (c_lle (by decide) (by omega)).mp q; omega)]
  obtain ⟨w1, c1, c2, c3⟩ := c_cells (Sim_VC h) h.2.2.1 (e := 0) (by omega) h2 (f_X5_digest_b62 (19997 + 1 + 1))
  have r1 := FrC_RC c2
  obtain ⟨w2, d1, d2, d3⟩ := c_cells (w := w1) (by rw [r1]; exact Sim_VC h) c3 (e := 1) (by omega) (cellsH (RC w 10) 0 (tn (RC w 10 0)) (tn (RC w 10 1) * tn (RC w 10 0)) h2) (f_X5_digest_b62 (19997 + 1))
  have r2 := FrC_RC d2
  rw [F3, show (0 : Int32) = nI 0 from rfl, st _ 0 _ _ (by omega), show nI 0 = (0 : Int32) from rfl]
  rw [show (f_X5_digest_b70 (0 : Int32) (f_X5_digest_b62 (19997 + 1 + 1)) FUEL h2 0 w) = _ from c1, st _ (0 + 1) _ _ (by omega)]
  rw [show (f_X5_digest_b70 (nI (0 + 1)) (f_X5_digest_b62 (19997 + 1)) FUEL _ 0 w1) = _ from d1, f_X5_digest_b62, if_pos (by decide), r1, hr, show h2 = hd2 w (RM v) 11 from b2]
  have r3 : RC w2 10 = RM v := by rw [r2, r1, hr]
  obtain ⟨w3, e1, e2, e3⟩ := c_mean (w := w2) (by rw [r3]; exact hv) d3 (e := 0) (by omega)
  have r4 := FrC_RC e2
  obtain ⟨w4, f1, f2, f3⟩ := c_mean (w := w3) (by rw [r4, r3]; exact hv) e3 (e := 1) (by omega)
  rw [r3] at e1
  rw [r4, r3] at f1
  refine ⟨w4, ?_, ((c2.tr d2).tr e2).tr f2, f3⟩
  rw [F3, f_X5_digest_b128, if_neg (by decide), show (0 : Int32) = nI 0 from rfl, e1, bind_s, jlet_eq, a_al, f_X5_digest_b128, if_neg (by decide)]
  dsimp only
  rw [f1, bind_s, jlet_eq, a_al, f_X5_digest_b128, if_pos (by decide)]
  rfl
theorem m_digest {w v : Wd} (h : Sim w v) : ∃ v' : Wd, f_X6_digest v = some (dgS w (RM v), v') ∧ FrM v v' := by
  have hv := h.2.1
  unfold f_X6_digest
  rw [wputl_eq]
  have fl : ∀ x : Int64, FrM v (wlong v x) := fun _ => FrM.rf v
  obtain ⟨v1, a1, a2, a3⟩ := loopG (fun n (s : Wd) i => f_X6_digest_b9 n i s) (fun s => f_X6_digest_b32 FUEL 0 s) 5 (fun j s => s.1 = v.1 ∧ s.2 = hd1 w j) (by omega)
    (fun n s hI => by
      show f_X6_digest_b9 (n + 1) (nI 5) s = _
      rw [f_X6_digest_b9, if_pos (by decide)])
    (fun n j s hj hI => by
      refine ⟨wlong s (mx s.2 (tlS w j).toInt64), ⟨hI.1, by unfold hd1; rw [foldN_succ, Nat.zero_add, wlong_2, hI.2]; rfl⟩, ?_⟩
      show f_X6_digest_b9 (n + 1) (nI j) s = f_X6_digest_b9 n (nI (j + 1)) _
      have et : f_X6_refusedOf (nI j) s = f_X6_refusedOf (nI j) v := by unfold f_X6_refusedOf f_X6_refusedOf_b30; rw [hI.1]
      rw [f_X6_digest_b9, if_neg (fun q => by have := (c_lle (by decide) (by omega)).mp q; omega), et, (tl_c h (n := j) (by omega)).2, bind_s, m_mix, bind_s, a_al]) (wlong v 1689) ⟨rfl, rfl⟩
  obtain ⟨v2, b1, b2, b3⟩ := loopG (fun n (s : Wd) i => f_X6_digest_b32 n i s) (fun s => f_X6_digest_b32 1 (nI 11) s) 11 (fun j s => s.1 = v.1 ∧ s.2 = hd2 w (RM v) j) (by omega)
    (fun n s hI => by
      show f_X6_digest_b32 (n + 1) (nI 11) s = f_X6_digest_b32 (0 + 1) (nI 11) s
      rw [f_X6_digest_b32, f_X6_digest_b32, if_pos (by decide), if_pos (by decide)])
    (fun n j s hj hI => by
      refine ⟨wlong s (mx s.2 (RM v j).toInt64), ⟨hI.1, by unfold hd2; rw [foldN_succ, Nat.zero_add, wlong_2, hI.2]; rfl⟩, ?_⟩
      show f_X6_digest_b32 (n + 1) (nI j) s = f_X6_digest_b32 n (nI (j + 1)) _
      rw [f_X6_digest_b32, if_neg (fun q => by have := (c_lle (by decide) (by omega)).mp q; omega), if_pos (i_n (by omega) (by omega)), n_cl (by omega), hI.1, RM_at (by omega), m_mix, bind_s, a_al]) v1 ⟨a2, a3⟩
  rw [show f_X6_digest_b9 FUEL 0 (wlong v 1689) = _ from a1, show f_X6_digest_b32 FUEL 0 v1 = _ from b1]
  show ∃ v', f_X6_digest_b32 (0 + 1) (nI 11) v2 = _ ∧ _
  rw [f_X6_digest_b32, if_pos (by decide)]
  have f2 : FrM v v2 := ⟨by rw [b2], by rw [b2], by rw [b2], by rw [b2], by rw [b2], by rw [b2]⟩
  have r2 := FrM_RM f2
  obtain ⟨v3, c1, c2, c3⟩ := m_cells (v := v2) (by rw [r2]; exact hv) (e := 0) (by omega)
  have r3 := FrM_RM c2
  obtain ⟨v4, d1, d2, d3⟩ := m_cells (v := v3) (by rw [r3, r2]; exact hv) (e := 1) (by omega)
  have r4 := FrM_RM d2
  obtain ⟨v5, e1, e2⟩ := m_mean (v := v4) (by rw [r4, r3, r2]; exact hv) (e := 0) (by omega)
  have r5 := FrA_RM e2
  obtain ⟨v6, g1, g2⟩ := m_mean (v := wlong v5 (mx v5.2 (mnS (RM v4) 0))) (by show VR (RM v5); rw [r5, r4, r3, r2]; exact hv) (e := 1) (by omega)
  rw [show (0 : Int32) = nI 0 from rfl, c1, bind_s, show (1 : Int32) = nI 1 from rfl, d1, bind_s, e1, bind_s]
  dsimp only
  rw [m_mix, bind_s, g1, bind_s]
  dsimp only
  rw [m_mix, bind_s]
  have r6 : RM (wlong v5 (mx v5.2 (mnS (RM v4) 0))) = RM v := by show RM v5 = _; rw [r5, r4, r3, r2]
  have g0 := FrM.A g2
  have g3 : FrM v5 v6 := g0
  have fr : FrM v v6 := (((f2.tr c2).tr d2).tr (FrM.A e2)).tr g3
  refine ⟨wlong v6 (mx v6.2 (mnS (RM (wlong v5 (mx v5.2 (mnS (RM v4) 0)))) 1)), ?_, fr⟩
  have ev : mx v6.2 (mnS (RM (wlong v5 (mx v5.2 (mnS (RM v4) 0)))) 1) = dgS w (RM v) := by
    rw [r6, g2.2.2, wlong_2, e2.2.2, d3, c3, b3, r4, r3, r2]
    rfl
  rw [wlong_2, ev]
theorem s_digest {w v : Wd} (h : Sim w v) : Ag (f_X5_digest w) (f_X6_digest v) := by
  obtain ⟨w', a1, a2, a3⟩ := c_digest h
  obtain ⟨v', b1, b2⟩ := m_digest h
  exact Ag_q h _ a1 b1 a2 a3 b2
