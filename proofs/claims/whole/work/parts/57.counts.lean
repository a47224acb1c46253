/-! ALL CELLS: marks counted, moves counted, the mean -/
theorem c_pl2 {w : Wd} (hv : VR (RC w 10)) {e x y : Nat} (he : e < 2) (hx : x < tn (RC w 10 0)) (hy : y < tn (RC w 10 1)) : f_X4_place (nI e) (nI x) (nI y) w = some (nI (16 * e + 4 * y + x)) := c_place (okC_of hv he hx hy)
theorem cnt_0 (g : Nat → Bool) (W : Nat) : nI (cnt12 g (0 * W + 0)) = 0 := by rw [Nat.zero_mul]; rfl
theorem s_marks {w v : Wd} (h : Sim w v) (e m : Int32) : Ag (f_X5_marks e m w) (f_X6_marks e m v) := by
  have hv := h.2.1
  have hr := h.1
  unfold f_X5_marks f_X6_marks f_X5_marks_b18 f_X6_marks_b18
  simp only [bd]
  rcases rng_c e 1 (by decide) with ⟨en, hen, rfl, e4, e5⟩ | ⟨e4, e5⟩
  · have hen' : en < 2 := Nat.lt_succ_of_le hen
    rw [e4, e5, bind_s, bind_s, if_neg one0, if_neg one0]
    rcases rng_c m 5 (by decide) with ⟨n, hn, rfl, e6, e7⟩ | ⟨e6, e7⟩
    · have hn' : n ≤ 5 := hn
      rw [e6, e7, bind_s, bind_s, if_neg one0, if_neg one0]
      obtain ⟨W, tW, a0⟩ : ∃ W, tn (RM v 0) = W ∧ (RM v 0 = nI W ∧ 1 ≤ W ∧ W ≤ 4) := ⟨_, rfl, VR_0 hv⟩
      obtain ⟨H, tH, a1⟩ : ∃ H, tn (RM v 1) = H ∧ (RM v 1 = nI H ∧ 1 ≤ H ∧ H ≤ 4) := ⟨_, rfl, VR_1 hv⟩
      obtain ⟨v1, b1, b2, b3⟩ := m_all hv hen'
      rw [b1, bind_s]
      have eR := FrA_RM b2
      obtain ⟨g, hg⟩ : ∃ g : Nat → Bool, g = lin W (fun y x => decide ((lkS (RM v) (16 * en + 4 * y + x)).1 = n)) := ⟨_, rfl⟩
      have gat : ∀ y x, x < W → g (y * W + x) = decide ((lkS (RM v) (16 * en + 4 * y + x)).1 = n) := fun y x hx => by rw [hg, lin_at _ hx]
      have mk : ∀ c, (nI (lkS (RM v) c).1 = nI n) ↔ (lkS (RM v) c).1 = n := fun c => c_eq (by have := lk_le (RM v) c; omega) (by omega)
      obtain ⟨⟨n1, w1⟩, c1, c2, c3, c4⟩ := loop2 (fun k (s : Int32 × Wd) y => f_X5_marks_b31 (nI en) (nI n) k s.1 y s.2) (fun k y j (s : Int32 × Wd) x => f_X5_marks_b46 (nI en) (nI n) y (fun q i u => k (q, u) i) j s.1 x s.2) (fun s => some (s.1, s.2)) W H
        (fun y x s => FrC w s.2 ∧ CK s.2 ∧ s.1 = nI (cnt12 g (y * W + x))) (by omega) (by omega)
        (fun k y s hy hI => by
          show f_X5_marks_b31 (nI en) (nI n) (k + 1) s.1 (nI y) s.2 = f_X5_marks_b46 (nI en) (nI n) (nI y) (f_X5_marks_b31 (nI en) (nI n) k) FUEL s.1 0 s.2
          rw [f_X5_marks_b31, hI.1.1 10 (by omega), RC_1 w 10, hr, a1.1, if_neg (fun q => by have := (c_le (by omega) (by omega)).mp q; omega)])
        (fun k s hI => by
          show f_X5_marks_b31 (nI en) (nI n) (k + 1) s.1 (nI H) s.2 = _
          rw [f_X5_marks_b31, hI.1.1 10 (by omega), RC_1 w 10, hr, a1.1, if_pos (Int32.le_refl _)])
        (fun k j y x s hy hx hI => by
          have eC : RC s.2 10 = RM v := by rw [FrC_RC hI.1, hr]
          obtain ⟨s1, l1, l2, l3, -⟩ := c_mark (w := s.2) (c := 16 * en + 4 * y + x) (by rw [eC]; exact hv) hI.2.1 (by omega)
          rw [eC] at l1
          refine ⟨(nI (cnt12 g (y * W + x) + (if g (y * W + x) = true then 1 else 0)), s1), ⟨hI.1.tr l2, l3, by rw [← Nat.add_assoc, cnt_s]⟩, ?_⟩
          show f_X5_marks_b46 (nI en) (nI n) (nI y) _ (j + 1) s.1 (nI x) s.2 = f_X5_marks_b46 (nI en) (nI n) (nI y) _ j _ (nI (x + 1)) s1
          rw [f_X5_marks_b46, hI.1.1 10 (by omega), RC_0 w 10, hr, a0.1, if_neg (fun q => by have := (c_le (by omega) (by omega)).mp q; omega), c_pl2 (by rw [eC]; exact hv) hen' (by rw [eC, tW]; exact hx) (by rw [eC, tH]; exact hy), bind_s, l1, bind_s, gat y x hx, hI.2.2]
          unfold f_X5_marks_b87
          simp only [jlet_eq, a_al, decide_eq_true_eq]
          by_cases q : (lkS (RM v) (16 * en + 4 * y + x)).1 = n
          · rw [if_pos ((mk _).mpr q), if_pos q]
          · rw [if_neg (fun z => q ((mk _).mp z)), if_neg q])
        (fun k j y s hy hI => by
          refine ⟨⟨hI.1, hI.2.1, by rw [← lin_e]; exact hI.2.2⟩, ?_⟩
          show f_X5_marks_b46 (nI en) (nI n) (nI y) _ (j + 1) s.1 (nI W) s.2 = _
          rw [f_X5_marks_b46, hI.1.1 10 (by omega), RC_0 w 10, hr, a0.1, if_pos (Int32.le_refl _), a_al])
        (0, w) ⟨FrC.rf w, h.2.2.1, (cnt_0 _ _).symm⟩
      obtain ⟨⟨n2, v2⟩, d1, d2, d3⟩ := loop2 (fun k (s : Int32 × Wd) y => f_X6_marks_b33 (nI n) k s.1 y s.2) (fun k y j (s : Int32 × Wd) x => f_X6_marks_b47 (nI n) y (fun q i u => k (q, u) i) j s.1 x s.2) (fun s => some (s.1, s.2)) W H
        (fun y x s => s.2 = v1 ∧ s.1 = nI (cnt12 g (y * W + x))) (by omega) (by omega)
        (fun k y s hy hI => by
          show f_X6_marks_b33 (nI n) (k + 1) s.1 (nI y) s.2 = f_X6_marks_b47 (nI n) (nI y) (f_X6_marks_b33 (nI n) k) FUEL s.1 0 s.2
          rw [f_X6_marks_b33, if_pos (by decide), show ((1 : Int32).toNatClampNeg) = 1 from rfl, RM_at (by omega), hI.1, eR, a1.1, if_neg (fun q => by have := (c_le (by omega) (by omega)).mp q; omega)])
        (fun k s hI => by
          show f_X6_marks_b33 (nI n) (k + 1) s.1 (nI H) s.2 = _
          rw [f_X6_marks_b33, if_pos (by decide), show ((1 : Int32).toNatClampNeg) = 1 from rfl, RM_at (by omega), hI.1, eR, a1.1, if_pos (Int32.le_refl _)])
        (fun k j y x s hy hx hI => by
          refine ⟨(nI (cnt12 g (y * W + x) + (if g (y * W + x) = true then 1 else 0)), v1), ⟨rfl, by rw [← Nat.add_assoc, cnt_s]⟩, ?_⟩
          show f_X6_marks_b47 (nI n) (nI y) _ (j + 1) s.1 (nI x) s.2 = f_X6_marks_b47 (nI n) (nI y) _ j _ (nI (x + 1)) v1
          rw [f_X6_marks_b47, if_pos (by decide), show ((0 : Int32).toNatClampNeg) = 0 from rfl, RM_at (by omega), hI.1, eR, a0.1, if_neg (fun q => by have := (c_le (by omega) (by omega)).mp q; omega), a_lm, nI_add, if_pos (i_n (by omega) (by omega)), n_cl (by omega), (b3 y x (by rw [tH]; exact hy) (by rw [tW]; exact hx)).1, gat y x hx, hI.2]
          unfold f_X6_marks_b80
          simp only [jlet_eq, a_al, decide_eq_true_eq]
          by_cases q : (lkS (RM v) (16 * en + 4 * y + x)).1 = n
          · rw [if_pos ((mk _).mpr q), if_pos q]
          · rw [if_neg (fun z => q ((mk _).mp z)), if_neg q])
        (fun k j y s hy hI => by
          refine ⟨⟨hI.1, by rw [← lin_e]; exact hI.2⟩, ?_⟩
          obtain ⟨q, u⟩ := s
          obtain rfl : u = v1 := hI.1
          show f_X6_marks_b47 (nI n) (nI y) _ (j + 1) q (nI W) u = _
          rw [f_X6_marks_b47, if_pos (by decide), show ((0 : Int32).toNatClampNeg) = 0 from rfl, RM_at (by omega), eR, a0.1, if_pos (Int32.le_refl _), a_al])
        (0, v1) ⟨rfl, (cnt_0 _ _).symm⟩
      have en1 : n1 = n2 := Eq.trans c4 d3.symm
      obtain rfl : v2 = v1 := d2
      exact Ag_q h n1 c1 (by rw [en1]; exact d1) c2 c3 (FrM.A b2)
    · rw [e6, e7, bind_s, bind_s, if_pos rfl, if_pos rfl]
      exact Ag_bad h rfl rfl
  · rw [e4, e5, bind_s, bind_s, if_pos rfl, if_pos rfl]
    exact Ag_bad h rfl rfl
theorem m_size (x : Int32) : f_X6_size x = some (ab x) := by
  unfold f_X6_size f_X6_size_b10 ab
  split <;> rfl
theorem s_moved {w v : Wd} (h : Sim w v) : Ag (f_X5_moved w) (f_X6_moved v) := by
  have hv := h.2.1
  have hr := h.1
  unfold f_X5_moved f_X6_moved
  obtain ⟨W, tW, a0⟩ : ∃ W, tn (RM v 0) = W ∧ (RM v 0 = nI W ∧ 1 ≤ W ∧ W ≤ 4) := ⟨_, rfl, VR_0 hv⟩
  obtain ⟨H, tH, a1⟩ : ∃ H, tn (RM v 1) = H ∧ (RM v 1 = nI H ∧ 1 ≤ H ∧ H ≤ 4) := ⟨_, rfl, VR_1 hv⟩
  obtain ⟨g, hg⟩ : ∃ g : Nat → Bool, g = lin W (fun y x => decide (¬ shS (RM v) (4 * y + x) (16 + 4 * y + x) = -10001 ∧ ¬ ab (shS (RM v) (4 * y + x) (16 + 4 * y + x)) ≤ RM v 10)) := ⟨_, rfl⟩
  have gat : ∀ y x, x < W → g (y * W + x) = decide (¬ shS (RM v) (4 * y + x) (16 + 4 * y + x) = -10001 ∧ ¬ ab (shS (RM v) (4 * y + x) (16 + 4 * y + x)) ≤ RM v 10) := fun y x hx => by rw [hg, lin_at _ hx]
  obtain ⟨⟨n1, w1⟩, c1, c2, c3, c4⟩ := loop2 (fun k (s : Int32 × Wd) y => f_X5_moved_b4 k s.1 y s.2) (fun k y j (s : Int32 × Wd) x => f_X5_moved_b17 y (fun q i u => k (q, u) i) j s.1 x s.2) (fun s => some (s.1, s.2)) W H
    (fun y x s => FrC w s.2 ∧ CK s.2 ∧ s.1 = nI (cnt12 g (y * W + x))) (by omega) (by omega)
    (fun k y s hy hI => by
      show f_X5_moved_b4 (k + 1) s.1 (nI y) s.2 = f_X5_moved_b17 (nI y) (f_X5_moved_b4 k) FUEL s.1 0 s.2
      rw [f_X5_moved_b4, hI.1.1 10 (by omega), RC_1 w 10, hr, a1.1, if_neg (fun q => by have := (c_le (by omega) (by omega)).mp q; omega)])
    (fun k s hI => by
      show f_X5_moved_b4 (k + 1) s.1 (nI H) s.2 = _
      rw [f_X5_moved_b4, hI.1.1 10 (by omega), RC_1 w 10, hr, a1.1, if_pos (Int32.le_refl _)])
    (fun k j y x s hy hx hI => by
      have eC : RC s.2 10 = RM v := by rw [FrC_RC hI.1, hr]
      obtain ⟨s1, l1, l2, l3⟩ := c_shift (w := s.2) (a := 4 * y + x) (b := 16 + 4 * y + x) (by rw [eC]; exact hv) hI.2.1 (by omega) (by omega)
      rw [eC] at l1
      refine ⟨(nI (cnt12 g (y * W + x) + (if g (y * W + x) = true then 1 else 0)), s1), ⟨hI.1.tr l2, l3, by rw [← Nat.add_assoc, cnt_s]⟩, ?_⟩
      show f_X5_moved_b17 (nI y) _ (j + 1) s.1 (nI x) s.2 = f_X5_moved_b17 (nI y) _ j _ (nI (x + 1)) s1
      have p0 := c_pl2 (w := s.2) (by rw [eC]; exact hv) (e := 0) (by omega) (by rw [eC, tW]; exact hx) (by rw [eC, tH]; exact hy)
      have p1 := c_pl2 (w := s.2) (by rw [eC]; exact hv) (e := 1) (by omega) (by rw [eC, tW]; exact hx) (by rw [eC, tH]; exact hy)
      rw [show 16 * 0 + 4 * y + x = 4 * y + x by omega] at p0
      rw [show 16 * 1 + 4 * y + x = 16 + 4 * y + x by omega] at p1
      have e12 : s1.1 12 5 = RM v 10 := by rw [RC_s10 (by omega), FrC_RC l2, eC]
      rw [f_X5_moved_b17, hI.1.1 10 (by omega), RC_0 w 10, hr, a0.1, if_neg (fun q => by have := (c_le (by omega) (by omega)).mp q; omega), show (0 : Int32) = nI 0 from rfl, p0, bind_s, show (1 : Int32) = nI 1 from rfl, p1, bind_s, l1, bind_s, gat y x hx, hI.2.2, if_pos (show inb 5 6 = true from rfl)]
      unfold f_X5_moved_b87 f_X5_moved_b88
      rw [show nI 0 = (0 : Int32) from rfl, show nI 1 = (1 : Int32) from rfl, show ((5 : Int32).toNatClampNeg) = 5 from rfl]
      simp only [jlet_eq, a_al, decide_eq_true_eq, e12, abz]
      by_cases q : shS (RM v) (4 * y + x) (16 + 4 * y + x) = -10001
      · rw [if_pos q, if_neg (fun z => z.1 q)]
      · rw [if_neg q]
        by_cases q2 : ab (shS (RM v) (4 * y + x) (16 + 4 * y + x)) ≤ RM v 10
        · rw [if_pos q2, if_neg (fun z => z.2 q2)]
        · rw [if_neg q2, if_pos ⟨q, q2⟩])
    (fun k j y s hy hI => by
      refine ⟨⟨hI.1, hI.2.1, by rw [← lin_e]; exact hI.2.2⟩, ?_⟩
      show f_X5_moved_b17 (nI y) _ (j + 1) s.1 (nI W) s.2 = _
      rw [f_X5_moved_b17, hI.1.1 10 (by omega), RC_0 w 10, hr, a0.1, if_pos (Int32.le_refl _), a_al])
    (0, w) ⟨FrC.rf w, h.2.2.1, (cnt_0 _ _).symm⟩
  obtain ⟨⟨n2, v2⟩, d1, d2, d3⟩ := loop2 (fun k (s : Int32 × Wd) y => f_X6_moved_b4 k s.1 y s.2) (fun k y j (s : Int32 × Wd) x => f_X6_moved_b16 y (fun q i u => k (q, u) i) j s.1 x s.2) (fun s => some (s.1, s.2)) W H
    (fun y x s => FrL v s.2 ∧ s.1 = nI (cnt12 g (y * W + x))) (by omega) (by omega)
    (fun k y s hy hI => by
      show f_X6_moved_b4 (k + 1) s.1 (nI y) s.2 = f_X6_moved_b16 (nI y) (f_X6_moved_b4 k) FUEL s.1 0 s.2
      rw [f_X6_moved_b4, if_pos (by decide), show ((1 : Int32).toNatClampNeg) = 1 from rfl, RM_at (by omega), FrL_RM hI.1, a1.1, if_neg (fun q => by have := (c_le (by omega) (by omega)).mp q; omega)])
    (fun k s hI => by
      show f_X6_moved_b4 (k + 1) s.1 (nI H) s.2 = _
      rw [f_X6_moved_b4, if_pos (by decide), show ((1 : Int32).toNatClampNeg) = 1 from rfl, RM_at (by omega), FrL_RM hI.1, a1.1, if_pos (Int32.le_refl _)])
    (fun k j y x s hy hx hI => by
      have eR := FrL_RM hI.1
      obtain ⟨s1, l1, l2⟩ := m_motion (v := s.2) (by rw [eR]; exact hv) (x := nI x) (y := nI y) (by rw [eR]; exact okC_of hv (e := 0) (by omega) (by rw [tW]; exact hx) (by rw [tH]; exact hy))
      have q0 : cNo 0 (nI x) (nI y) = 4 * y + x := by
        unfold cNo
        rw [tn_n (by omega), tn_n (by omega), show tn 0 = 0 from rfl]
        omega
      have q1 : cNo 1 (nI x) (nI y) = 16 + 4 * y + x := by
        unfold cNo
        rw [tn_n (by omega), tn_n (by omega), show tn 1 = 1 from rfl]
      rw [eR, q0, q1] at l1
      refine ⟨(nI (cnt12 g (y * W + x) + (if g (y * W + x) = true then 1 else 0)), s1), ⟨hI.1.tr l2, by rw [← Nat.add_assoc, cnt_s]⟩, ?_⟩
      show f_X6_moved_b16 (nI y) _ (j + 1) s.1 (nI x) s.2 = f_X6_moved_b16 (nI y) _ j _ (nI (x + 1)) s1
      have e12 : s1.1 1 10 = RM v 10 := by rw [RM_at (by omega), FrL_RM l2, eR]
      rw [f_X6_moved_b16, if_pos (by decide), show ((0 : Int32).toNatClampNeg) = 0 from rfl, RM_at (by omega), eR, a0.1, if_neg (fun q => by have := (c_le (by omega) (by omega)).mp q; omega), l1, bind_s, m_size, bind_s, gat y x hx, hI.2, if_pos (show inb 10 395 = true from rfl)]
      unfold f_X6_moved_b62 f_X6_moved_b63
      rw [show ((10 : Int32).toNatClampNeg) = 10 from rfl]
      simp only [jlet_eq, a_al, decide_eq_true_eq, e12]
      by_cases q : shS (RM v) (4 * y + x) (16 + 4 * y + x) = -10001
      · rw [if_pos q, if_neg (fun z => z.1 q)]
      · rw [if_neg q]
        by_cases q2 : ab (shS (RM v) (4 * y + x) (16 + 4 * y + x)) ≤ RM v 10
        · rw [if_pos q2, if_neg (fun z => z.2 q2)]
        · rw [if_neg q2, if_pos ⟨q, q2⟩])
    (fun k j y s hy hI => by
      refine ⟨⟨hI.1, by rw [← lin_e]; exact hI.2⟩, ?_⟩
      show f_X6_moved_b16 (nI y) _ (j + 1) s.1 (nI W) s.2 = _
      rw [f_X6_moved_b16, if_pos (by decide), show ((0 : Int32).toNatClampNeg) = 0 from rfl, RM_at (by omega), FrL_RM hI.1, a0.1, if_pos (Int32.le_refl _), a_al])
    (0, v) ⟨FrL.rf v, (cnt_0 _ _).symm⟩
  have en1 : n1 = n2 := Eq.trans c4 d3.symm
  exact Ag_q h n1 c1 (by rw [en1]; exact d1) c2 c3 (FrM.L d2)
