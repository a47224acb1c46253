/-! ALL CELLS: the mean -/
def linN (W : Nat) (f : Nat → Nat → Nat) (i : Nat) : Nat := f (i / W) (i % W)
theorem linN_at {W y x : Nat} (f : Nat → Nat → Nat) (hx : x < W) : linN W f (y * W + x) = f y x := by
  unfold linN
  rw [Nat.mul_comm, Nat.mul_add_div (by omega), Nat.mul_add_mod, Nat.mod_eq_of_lt hx, Nat.div_eq_of_lt hx, Nat.add_zero]
def smT (f : Nat → Nat) (i : Nat) : Nat := foldN (fun i s => s + f i) i 0 0
theorem smT_s (f : Nat → Nat) (i : Nat) : smT f (i + 1) = smT f i + f i := by
  unfold smT
  rw [foldN_succ, Nat.zero_add]
def dN (r : Row) (c : Nat) : Nat := if (lkS r c).1 = 0 then tn (enc (lkS r c).2.1) else 0
theorem dN_b {r : Row} (hv : VR r) (c : Nat) : dN r c ≤ 9999 * (if decide ((lkS r c).1 = 0) = true then 1 else 0) := by
  unfold dN
  by_cases h : (lkS r c).1 = 0
  · obtain ⟨b, hb, eb⟩ := lk_eN hv h
    rw [if_pos h, if_pos (decide_eq_true h), eb, tn_n (by omega)]
    omega
  · rw [if_neg h]
    omega
def gM (r : Row) (e : Nat) : Nat → Bool := lin (tn (r 0)) (fun y x => decide ((lkS r (16 * e + 4 * y + x)).1 = 0))
def dM (r : Row) (e : Nat) : Nat → Nat := linN (tn (r 0)) (fun y x => dN r (16 * e + 4 * y + x))
theorem sm_le {r : Row} (hv : VR r) (e : Nat) : ∀ i, smT (dM r e) i ≤ 9999 * cnt12 (gM r e) i
  | 0 => Nat.zero_le _
  | i + 1 => by
    rw [smT_s, cnt_s]
    have h1 := sm_le hv e i
    have h2 : dM r e i ≤ 9999 * (if gM r e i = true then 1 else 0) := dN_b hv _
    rw [Nat.mul_add]
    omega
def mnS (r : Row) (e : Nat) : Int64 := if cnt12 (gM r e) (tn (r 1) * tn (r 0)) = 0 then 0 else (FP.ddiv (FP.i2d (nI (smT (dM r e) (tn (r 1) * tn (r 0))))) (FP.i2d (nI (cnt12 (gM r e) (tn (r 1) * tn (r 0)))))).toInt64
theorem mn_b {r : Row} (hv : VR r) (e : Nat) (h : ¬ cnt12 (gM r e) (tn (r 1) * tn (r 0)) = 0) : GD (FP.ddiv (FP.i2d (nI (smT (dM r e) (tn (r 1) * tn (r 0))))) (FP.i2d (nI (cnt12 (gM r e) (tn (r 1) * tn (r 0)))))) ∧ FP.Core.val64 (FP.ddiv (FP.i2d (nI (smT (dM r e) (tn (r 1) * tn (r 0))))) (FP.i2d (nI (cnt12 (gM r e) (tn (r 1) * tn (r 0)))))) ≠ .nan := by
  have a0 := VR_0 hv
  have a1 := VR_1 hv
  have h1 := sm_le hv e (tn (r 1) * tn (r 0))
  have h2 := cnt_le (gM r e) (tn (r 1) * tn (r 0))
  have h3 : tn (r 1) * tn (r 0) ≤ 4 * 4 := Nat.mul_le_mul a1.2.2 a0.2.2
  exact qd_good (by omega) (by omega) (by omega) h1
theorem c_mean {w : Wd} (hv : VR (RC w 10)) (hk : CK w) {e : Nat} (he : e < 2) : ∃ w' : Wd, f_X2_meanBits (nI e) w = some (mnS (RC w 10) e, w') ∧ FrC w w' ∧ CK w' := by
  obtain ⟨r, hr⟩ : ∃ r, RC w 10 = r := ⟨_, rfl⟩
  rw [hr] at hv ⊢
  have mb := mn_b hv e
  obtain ⟨W, tW, a0⟩ : ∃ W, tn (r 0) = W ∧ (r 0 = nI W ∧ 1 ≤ W ∧ W ≤ 4) := ⟨_, rfl, VR_0 hv⟩
  obtain ⟨H, tH, a1⟩ : ∃ H, tn (r 1) = H ∧ (r 1 = nI H ∧ 1 ≤ H ∧ H ≤ 4) := ⟨_, rfl, VR_1 hv⟩
  have gat : ∀ y x, x < W → gM r e (y * W + x) = decide ((lkS r (16 * e + 4 * y + x)).1 = 0) := fun y x hx => by unfold gM; rw [tW, lin_at _ hx]
  have dat : ∀ y x, x < W → dM r e (y * W + x) = dN r (16 * e + 4 * y + x) := fun y x hx => by unfold dM; rw [tW, linN_at _ hx]
  unfold f_X2_meanBits mnS
  rw [tW, tH] at mb ⊢
  obtain ⟨⟨q1, q2, w1⟩, c1, c2, c3, c4, c5⟩ := loop2 (fun k (s : Int32 × Int32 × Wd) y => f_X2_meanBits_b7 (nI e) k s.1 s.2.1 y s.2.2) (fun k y j (s : Int32 × Int32 × Wd) x => f_X2_meanBits_b22 (nI e) y (fun a b i u => k (a, b, u) i) j s.1 s.2.1 x s.2.2) (fun s => if s.2.1 ≤ 0 then (f_X2_meanBits_b97 (0 : Int64) s.2.2) else (if nn64 (FP.ddiv (FP.i2d s.1) (FP.i2d s.2.1)) = true then ((f_X0_ofDouble (FP.ddiv (FP.i2d s.1) (FP.i2d s.2.1))).bind (fun v2 => f_X2_meanBits_b97 v2 s.2.2)) else none)) W H
    (fun y x s => FrC w s.2.2 ∧ CK s.2.2 ∧ s.1 = nI (smT (dM r e) (y * W + x)) ∧ s.2.1 = nI (cnt12 (gM r e) (y * W + x))) (by omega) (by omega)
    (fun k y s hy hI => by
      show f_X2_meanBits_b7 (nI e) (k + 1) s.1 s.2.1 (nI y) s.2.2 = f_X2_meanBits_b22 (nI e) (nI y) (f_X2_meanBits_b7 (nI e) k) FUEL s.1 s.2.1 0 s.2.2
      rw [f_X2_meanBits_b7, hI.1.1 10 (by omega), RC_1 w 10, hr, a1.1, if_neg (fun q => by have := (c_le (by omega) (by omega)).mp q; omega)])
    (fun k s hI => by
      show f_X2_meanBits_b7 (nI e) (k + 1) s.1 s.2.1 (nI H) s.2.2 = _
      rw [f_X2_meanBits_b7, hI.1.1 10 (by omega), RC_1 w 10, hr, a1.1, if_pos (Int32.le_refl _)])
    (fun k j y x s hy hx hI => by
      have eC : RC s.2.2 10 = r := by rw [FrC_RC hI.1, hr]
      obtain ⟨s1, l1, l2, l3, -⟩ := c_mark (w := s.2.2) (c := 16 * e + 4 * y + x) (by rw [eC]; exact hv) hI.2.1 (by omega)
      rw [eC] at l1
      have pl := c_pl2 (w := s.2.2) (by rw [eC]; exact hv) he (by rw [eC, tW]; exact hx) (by rw [eC, tH]; exact hy)
      by_cases q : (lkS r (16 * e + 4 * y + x)).1 = 0
      · have eC1 : RC s1 10 = r := by rw [FrC_RC l2, eC]
        obtain ⟨s2, m1, m2, m3⟩ := c_dist (w := s1) (c := 16 * e + 4 * y + x) (by rw [eC1]; exact hv) l3 (by omega)
        rw [eC1] at m1
        obtain ⟨b, hb, eb⟩ := lk_eN hv q
        refine ⟨(nI (smT (dM r e) (y * W + x) + b), nI (cnt12 (gM r e) (y * W + x) + 1), s2), ⟨(hI.1.tr l2).tr m2, m3, ?_, ?_⟩, ?_⟩
        · rw [← Nat.add_assoc, smT_s, dat y x hx]
          unfold dN
          rw [if_pos q, eb, tn_n (by omega)]
        · rw [← Nat.add_assoc, cnt_s, gat y x hx, if_pos (decide_eq_true q)]
        · show f_X2_meanBits_b22 (nI e) (nI y) _ (j + 1) s.1 s.2.1 (nI x) s.2.2 = f_X2_meanBits_b22 (nI e) (nI y) _ j _ _ (nI (x + 1)) s2
          rw [f_X2_meanBits_b22, hI.1.1 10 (by omega), RC_0 w 10, hr, a0.1, if_neg (fun q => by have := (c_le (by omega) (by omega)).mp q; omega), pl, bind_s, l1, bind_s, if_pos (mk_0.mpr q), m1, bind_s, hI.2.2.1, hI.2.2.2]
          unfold f_X2_meanBits_b69
          simp only [jlet_eq, a_al, eb, nI_add]
      · refine ⟨(nI (smT (dM r e) (y * W + x)), nI (cnt12 (gM r e) (y * W + x)), s1), ⟨hI.1.tr l2, l3, ?_, ?_⟩, ?_⟩
        · rw [← Nat.add_assoc, smT_s, dat y x hx]
          unfold dN
          rw [if_neg q, Nat.add_zero]
        · rw [← Nat.add_assoc, cnt_s, gat y x hx, if_neg (fun z => q (of_decide_eq_true z)), Nat.add_zero]
        · show f_X2_meanBits_b22 (nI e) (nI y) _ (j + 1) s.1 s.2.1 (nI x) s.2.2 = f_X2_meanBits_b22 (nI e) (nI y) _ j _ _ (nI (x + 1)) s1
          rw [f_X2_meanBits_b22, hI.1.1 10 (by omega), RC_0 w 10, hr, a0.1, if_neg (fun q => by have := (c_le (by omega) (by omega)).mp q; omega), pl, bind_s, l1, bind_s, if_neg (fun z => q (mk_0.mp z)), hI.2.2.1, hI.2.2.2]
          unfold f_X2_meanBits_b69
          simp only [a_al])
    (fun k j y s hy hI => by
      refine ⟨⟨hI.1, hI.2.1, by rw [← lin_e]; exact hI.2.2.1, by rw [← lin_e]; exact hI.2.2.2⟩, ?_⟩
      show f_X2_meanBits_b22 (nI e) (nI y) _ (j + 1) s.1 s.2.1 (nI W) s.2.2 = _
      rw [f_X2_meanBits_b22, hI.1.1 10 (by omega), RC_0 w 10, hr, a0.1, if_pos (Int32.le_refl _), a_al])
    (0, 0, w) ⟨FrC.rf w, hk, by rw [Nat.zero_mul]; rfl, (cnt_0 _ _).symm⟩
  refine ⟨w1, ?_, c2, c3⟩
  have e1 : q1 = nI (smT (dM r e) (H * W)) := by have := c4; rw [Nat.add_zero] at this; exact this
  have e2 : q2 = nI (cnt12 (gM r e) (H * W)) := by have := c5; rw [Nat.add_zero] at this; exact this
  have hcl := cnt_le (gM r e) (H * W)
  have h16 : H * W ≤ 4 * 4 := Nat.mul_le_mul a1.2.2 a0.2.2
  rw [show f_X2_meanBits_b7 (nI e) FUEL 0 0 0 w = _ from c1]
  show (if q2 ≤ 0 then f_X2_meanBits_b97 (0 : Int64) w1 else (if nn64 (FP.ddiv (FP.i2d q1) (FP.i2d q2)) = true then ((f_X0_ofDouble (FP.ddiv (FP.i2d q1) (FP.i2d q2))).bind (fun v2 => f_X2_meanBits_b97 v2 w1)) else none)) = _
  unfold f_X2_meanBits_b97
  rw [e1, e2]
  by_cases z : cnt12 (gM r e) (H * W) = 0
  · rw [if_pos z, if_pos ((c_le0 (by omega)).mpr (by omega))]
  · obtain ⟨g1, g2⟩ := mb z
    rw [if_neg z, if_neg (fun q => z (by have := (c_le0 (by omega)).mp q; omega)), if_pos (Nd_t g2), ofD g1, bind_s]
theorem m_mean {v : Wd} (hv : VR (RM v)) {e : Nat} (he : e < 2) : ∃ v' : Wd, f_X6_meanOf (nI e) v = some (mnS (RM v) e, v') ∧ FrA v v' := by
  obtain ⟨v1, b1, b2, b3⟩ := m_all hv he
  have eR := FrA_RM b2
  obtain ⟨r, hr⟩ : ∃ r, RM v = r := ⟨_, rfl⟩
  rw [hr] at hv b3 eR ⊢
  have mb := mn_b hv e
  obtain ⟨W, tW, a0⟩ : ∃ W, tn (r 0) = W ∧ (r 0 = nI W ∧ 1 ≤ W ∧ W ≤ 4) := ⟨_, rfl, VR_0 hv⟩
  obtain ⟨H, tH, a1⟩ : ∃ H, tn (r 1) = H ∧ (r 1 = nI H ∧ 1 ≤ H ∧ H ≤ 4) := ⟨_, rfl, VR_1 hv⟩
  have gat : ∀ y x, x < W → gM r e (y * W + x) = decide ((lkS r (16 * e + 4 * y + x)).1 = 0) := fun y x hx => by unfold gM; rw [tW, lin_at _ hx]
  have dat : ∀ y x, x < W → dM r e (y * W + x) = dN r (16 * e + 4 * y + x) := fun y x hx => by unfold dM; rw [tW, linN_at _ hx]
  unfold f_X6_meanOf mnS
  rw [tW, tH] at mb ⊢
  rw [b1, bind_s]
  obtain ⟨⟨q1, q2, v2⟩, c1, c2, c4, c5⟩ := loop2 (fun k (s : Int32 × Int32 × Wd) y => f_X6_meanOf_b12 k s.1 s.2.1 y s.2.2) (fun k y j (s : Int32 × Int32 × Wd) x => f_X6_meanOf_b26 y (fun a b i u => k (a, b, u) i) j s.1 s.2.1 x s.2.2) (fun s => if s.2.1 = 0 then (f_X6_meanOf_b121 FP.dconst0 s.2.2) else (if nn64 (FP.ddiv (FP.i2d s.1) (FP.i2d s.2.1)) = true then (f_X6_meanOf_b121 (FP.ddiv (FP.i2d s.1) (FP.i2d s.2.1)) s.2.2) else none)) W H
    (fun y x s => s.2.2 = v1 ∧ s.1 = nI (smT (dM r e) (y * W + x)) ∧ s.2.1 = nI (cnt12 (gM r e) (y * W + x))) (by omega) (by omega)
    (fun k y s hy hI => by
      show f_X6_meanOf_b12 (k + 1) s.1 s.2.1 (nI y) s.2.2 = f_X6_meanOf_b26 (nI y) (f_X6_meanOf_b12 k) FUEL s.1 s.2.1 0 s.2.2
      rw [f_X6_meanOf_b12, if_pos (by decide), show ((1 : Int32).toNatClampNeg) = 1 from rfl, RM_at (by omega), hI.1, eR, a1.1, if_neg (fun q => by have := (c_le (by omega) (by omega)).mp q; omega)])
    (fun k s hI => by
      show f_X6_meanOf_b12 (k + 1) s.1 s.2.1 (nI H) s.2.2 = _
      rw [f_X6_meanOf_b12, if_pos (by decide), show ((1 : Int32).toNatClampNeg) = 1 from rfl, RM_at (by omega), hI.1, eR, a1.1, if_pos (Int32.le_refl _)])
    (fun k j y x s hy hx hI => by
      have al := b3 y x (by rw [tH]; exact hy) (by rw [tW]; exact hx)
      refine ⟨(nI (smT (dM r e) (y * W + x) + dN r (16 * e + 4 * y + x)), nI (cnt12 (gM r e) (y * W + x) + (if gM r e (y * W + x) = true then 1 else 0)), v1), ⟨rfl, ?_, ?_⟩, ?_⟩
      · rw [← Nat.add_assoc, smT_s, dat y x hx]
      · rw [← Nat.add_assoc, cnt_s]
      · show f_X6_meanOf_b26 (nI y) _ (j + 1) s.1 s.2.1 (nI x) s.2.2 = f_X6_meanOf_b26 (nI y) _ j _ _ (nI (x + 1)) v1
        rw [f_X6_meanOf_b26, if_pos (by decide), show ((0 : Int32).toNatClampNeg) = 0 from rfl, RM_at (by omega), hI.1, eR, a0.1, if_neg (fun q => by have := (c_le (by omega) (by omega)).mp q; omega), a_lm, nI_add, if_pos (i_n (by omega) (by omega)), n_cl (by omega), al.1, gat y x hx, hI.2.1, hI.2.2]
        unfold f_X6_meanOf_b57 f_X6_meanOf_b81 f_X6_meanOf_b94
        by_cases q : (lkS r (16 * e + 4 * y + x)).1 = 0
        · obtain ⟨b, hb, eb⟩ := lk_eN hv q
          have ed : dN r (16 * e + 4 * y + x) = b := by unfold dN; rw [if_pos q, eb, tn_n (by omega)]
          rw [if_pos (mk_0.mpr q), if_pos (decide_eq_true q), ed]
          simp only [jlet_eq, a_al, k10, if_false, a_lm, nI_add]
          rw [if_pos (i_n (by omega) (by omega)), n_cl (by omega), al.2.1, eb, nI_add]
        · have ed : dN r (16 * e + 4 * y + x) = 0 := by unfold dN; rw [if_neg q]
          rw [if_neg (fun z => q (mk_0.mp z)), if_neg (fun z => q (of_decide_eq_true z)), ed]
          simp only [jlet_eq, a_al, k00, if_true])
    (fun k j y s hy hI => by
      refine ⟨⟨hI.1, by rw [← lin_e]; exact hI.2.1, by rw [← lin_e]; exact hI.2.2⟩, ?_⟩
      obtain ⟨q, q', u⟩ := s
      obtain rfl : u = v1 := hI.1
      show f_X6_meanOf_b26 (nI y) _ (j + 1) q q' (nI W) u = _
      rw [f_X6_meanOf_b26, if_pos (by decide), show ((0 : Int32).toNatClampNeg) = 0 from rfl, RM_at (by omega), eR, a0.1, if_pos (Int32.le_refl _), a_al])
    (0, 0, v1) ⟨rfl, by rw [Nat.zero_mul]; rfl, (cnt_0 _ _).symm⟩
  obtain rfl : v2 = v1 := c2
  refine ⟨v2, ?_, b2⟩
  have e1 : q1 = nI (smT (dM r e) (H * W)) := by have := c4; rw [Nat.add_zero] at this; exact this
  have e2 : q2 = nI (cnt12 (gM r e) (H * W)) := by have := c5; rw [Nat.add_zero] at this; exact this
  have hcl := cnt_le (gM r e) (H * W)
  have h16 : H * W ≤ 4 * 4 := Nat.mul_le_mul a1.2.2 a0.2.2
  rw [show f_X6_meanOf_b12 FUEL 0 0 0 v2 = _ from c1]
  show (if q2 = 0 then f_X6_meanOf_b121 FP.dconst0 v2 else (if nn64 (FP.ddiv (FP.i2d q1) (FP.i2d q2)) = true then f_X6_meanOf_b121 (FP.ddiv (FP.i2d q1) (FP.i2d q2)) v2 else none)) = _
  unfold f_X6_meanOf_b121
  rw [e1, e2]
  by_cases z : cnt12 (gM r e) (H * W) = 0
  · rw [if_pos z, if_pos ((c_eq0 (by omega)).mpr z), jD (by decide +kernel), bind_s]
    rfl
  · obtain ⟨g1, g2⟩ := mb z
    rw [if_neg z, if_neg (fun q => z ((c_eq0 (by omega)).mp q)), if_pos (Nd_t g2), jD g2, bind_s]
theorem s_mean {w v : Wd} (h : Sim w v) (e : Int32) : Ag (f_X5_mean e w) (f_X6_mean e v) := by
  unfold f_X5_mean f_X6_mean f_X5_mean_b28 f_X6_mean_b22
  rcases rng_c e 1 (by decide) with ⟨en, hen, rfl, e4, e5⟩ | ⟨e4, e5⟩
  · have hen' : en < 2 := Nat.lt_succ_of_le hen
    rw [e4, e5, bind_s, bind_s, if_neg one0, if_neg one0]
    obtain ⟨w1, a1, a2, a3⟩ := c_mean (Sim_VC h) h.2.2.1 hen'
    obtain ⟨v1, b1, b2⟩ := m_mean h.2.1 hen'
    rw [h.1] at a1
    rw [a1, b1, bind_s, bind_s]
    exact Ag_q h _ rfl rfl a2 a3 (FrM.A b2)
  · rw [e4, e5, bind_s, bind_s, if_pos rfl, if_pos rfl, c_ref0, m_bad, bind_s, bind_s]
    exact ⟨_, _, _, rfl, rfl, Sim_ref h 0 (by omega)⟩
