/-! A sample put; a state brought back -/
theorem u_sample {w v : Wd} (hr : RC w 10 = RM v) (hv : VR (RM v)) {c k i a : Nat} (hc : c < 32) (hk : k < 3) (hi : i < 4) (ha : a ≤ 4095) : Up w v (f_X4_putSample (nI c) (nI k) (nI i) (nI a) w) (f_X6_putSample (nI (pos c + 4 * k + i)) (nI a) v) := by
  unfold f_X4_putSample f_X6_putSample
  have hb : pos c + 4 * k + i < 395 := by unfold pos; omega
  rw [c_isCell hc, bind_s, if_neg one0, w_t (nI_pos' (by omega)) ((c_lel (by decide) (by omega)).mpr (by omega)), bind_s, if_neg one0, w_t (nI_pos' (by omega)) ((c_lel (by decide) (by omega)).mpr (by omega)), bind_s, if_neg one0, w_t (nI_pos' (by omega)) ((c_lel (by decide) (by omega)).mpr (by omega)), bind_s, if_neg one0]
  simp only [jlet_eq, wput_eq, a_ml, nI_add]
  rw [if_pos (i_n (by omega) (by omega)), if_pos (i_n (by omega) (by omega)), if_pos (i_n hb (by omega)), if_pos (i_n hb (by omega)), n_cl (by omega), n_cl (by omega), RC_m10 (by omega), RM_at hb, hr, show 11 + (c * 12 + k * 4 + i) = pos c + 4 * k + i by unfold pos; omega]
  obtain ⟨q, hq, eq⟩ := VR_i hv hb
  refine ⟨_, _, _, rfl, rfl, (PutC.rf w).s _ _ (by omega), (PutM.rf v).s _ _, ?_, ?_, fun z => absurd (eq ▸ z) (nb (by omega))⟩
  · rw [RC_sm _ (by omega), RM_s _ hb, hr, show 11 + (c * 12 + k * 4 + i) = pos c + 4 * k + i by unfold pos; omega]
  · rw [RM_s _ hb]
    exact VR_sm hv (by unfold pos; omega) ⟨a, by omega, ha, rfl⟩
theorem s_sample {w v : Wd} (h : Sim w v) (e x y k i a : Int32) : Ag (f_X5_sample e x y k i a w) (f_X6_sample e x y k i a v) := by
  have hv := h.2.1
  have hr := h.1
  have go : ∀ (mf : Wd → Option (Int32 × Wd)), (∀ w1 v1 : Wd, RC w1 10 = RM v1 → VR (RM v1) → RM v1 = RM v → Up w1 v1 ((f_X4_place e x y w1).bind (fun v2 => f_X4_putSample v2 k i a w1)) (mf v1)) → f_X6_sample e x y k i a v = (f_X6_laysAside v).bind (fun v1 => (mf v1).bind (fun z3 => (f_X6_finished z3.1 z3.2).bind (fun z4 => some (z4.1, z4.2)))) → Ag (f_X5_sample e x y k i a w) (f_X6_sample e x y k i a v) := fun mf h1 h2 => by
    have := s_put h (fun w1 => (f_X4_place e x y w1).bind (fun v2 => f_X4_putSample v2 k i a w1)) mf h1
    rw [h2]
    unfold f_X5_sample
    simp only [Option.bind_assoc] at this
    exact this
  have bad : (f_X6_sample e x y k i a v = f_X6_sample_b47 e x y k i a 0 v) → (∀ w1 v1 : Wd, RC w1 10 = RM v1 → VR (RM v1) → RM v1 = RM v → ((f_X4_place e x y w1).bind (fun v2 => f_X4_putSample v2 k i a w1)) = some (-10002, w1)) → Ag (f_X5_sample e x y k i a w) (f_X6_sample e x y k i a v) := fun e1 e2 => go (fun v1 => some (-10002, v1)) (fun w1 v1 q1 q2 q3 => Up_bad q1 q2 (e2 w1 v1 q1 q2 q3) rfl) (by
    rw [e1]
    unfold f_X6_sample_b47 f_X6_sample_b85
    congr 1)
  have cl : ∀ w1 v1 : Wd, RC w1 10 = RM v1 → VR (RM v1) → RM v1 = RM v → (okC (RM v) e x y → f_X4_place e x y w1 = some (nI (cNo e x y)) ∧ cNo e x y < 32) ∧ (¬ okC (RM v) e x y → f_X4_place e x y w1 = some (-1)) := fun w1 v1 q1 q2 q3 => by
    refine ⟨fun ok => ?_, fun ok => ?_⟩
    · exact c_placeC (by rw [q1]; exact q2) (by rw [q1, q3]; exact ok)
    · exact c_placeN (by rw [q1, q3]; exact ok)
  by_cases hok : okC (RM v) e x y
  · by_cases hk : (0 : Int32) ≤ k ∧ k ≤ 2
    · by_cases hi : (0 : Int32) ≤ i ∧ i ≤ 3
      · by_cases ha : (0 : Int32) ≤ a ∧ a ≤ 4095
        · have hm : f_X6_sample e x y k i a v = f_X6_sample_b47 e x y k i a 1 v := by
            unfold f_X6_sample
            rw [m_isCell, if_pos hok, bind_s, if_neg one0, in_t hk.1 hk.2, bind_s, if_neg one0, in_t hi.1 hi.2, bind_s, if_neg one0, in_t ha.1 ha.2, bind_s, if_neg one0]
          obtain ⟨kn, hkn, rfl⟩ := of_range hk.1 hk.2 (by decide)
          obtain ⟨n, hn, rfl⟩ := of_range hi.1 hi.2 (by decide)
          obtain ⟨m, hmm, rfl⟩ := of_range ha.1 ha.2 (by decide)
          have hkn' : kn ≤ 2 := hkn
          have hn' : n ≤ 3 := hn
          have hm' : m ≤ 4095 := hmm
          obtain ⟨pl, hc⟩ := m_placeC hv hok
          refine go (fun v1 => f_X6_putSample (nI (pos (cNo e x y) + 4 * kn + n)) (nI m) v1) (fun w1 v1 q1 q2 q3 => ?_) ?_
          · obtain ⟨g1, g2⟩ := (cl w1 v1 q1 q2 q3).1 hok
            rw [g1, bind_s]
            exact u_sample q1 q2 g2 (by omega) (by omega) (by omega)
          · rw [hm]
            unfold f_X6_sample_b47 f_X6_sample_b85
            rw [pl]
            simp only [bind_s, k10, if_false, a_lm, nI_add]
        · refine bad (by
            unfold f_X6_sample f_X6_sample_b46
            rw [m_isCell, if_pos hok, bind_s, if_neg one0, in_t hk.1 hk.2, bind_s, if_neg one0, in_t hi.1 hi.2, bind_s, if_neg one0, in_f ha, bind_s, if_pos rfl]) (fun w1 v1 q1 q2 q3 => ?_)
          obtain ⟨g1, g2⟩ := (cl w1 v1 q1 q2 q3).1 hok
          unfold f_X4_putSample f_X4_putSample_b37
          rw [g1, bind_s, c_isCell g2, bind_s, if_neg one0, w_t hk.1 hk.2, bind_s, if_neg one0, w_t hi.1 hi.2, bind_s, if_neg one0, w_f ha, bind_s, if_pos rfl]
      · refine bad (by
          unfold f_X6_sample f_X6_sample_b46
          rw [m_isCell, if_pos hok, bind_s, if_neg one0, in_t hk.1 hk.2, bind_s, if_neg one0, in_f hi, bind_s, if_pos rfl]) (fun w1 v1 q1 q2 q3 => ?_)
        obtain ⟨g1, g2⟩ := (cl w1 v1 q1 q2 q3).1 hok
        unfold f_X4_putSample f_X4_putSample_b37
        rw [g1, bind_s, c_isCell g2, bind_s, if_neg one0, w_t hk.1 hk.2, bind_s, if_neg one0, w_f hi, bind_s, if_pos rfl]
    · refine bad (by
        unfold f_X6_sample f_X6_sample_b46
        rw [m_isCell, if_pos hok, bind_s, if_neg one0, in_f hk, bind_s, if_pos rfl]) (fun w1 v1 q1 q2 q3 => ?_)
      obtain ⟨g1, g2⟩ := (cl w1 v1 q1 q2 q3).1 hok
      unfold f_X4_putSample f_X4_putSample_b37
      rw [g1, bind_s, c_isCell g2, bind_s, if_neg one0, w_f hk, bind_s, if_pos rfl]
  · refine bad (by
      unfold f_X6_sample f_X6_sample_b46
      rw [m_isCell, if_neg hok, bind_s, if_pos rfl]) (fun w1 v1 q1 q2 q3 => ?_)
    have g1 := (cl w1 v1 q1 q2 q3).2 hok
    unfold f_X4_putSample f_X4_putSample_b37
    rw [g1, bind_s, c_isCellN, bind_s, if_pos rfl]
theorem s_back {w v : Wd} (h : Sim w v) : Ag (f_X5_back w) (f_X6_back v) := by
  obtain ⟨h1, h2, hk, h3, ⟨n, t1, t2, t3, t4⟩, m, p, k1, k2, k3, k4, k5, k6⟩ := h
  have h' : Sim w v := ⟨h1, h2, hk, h3, ⟨n, t1, t2, t3, t4⟩, m, p, k1, k2, k3, k4, k5, k6⟩
  unfold f_X5_back f_X6_back f_X5_back_b16
  simp only [bd]
  rw [k2, k3]
  by_cases hm : m = 0
  · subst hm
    rw [if_pos (by decide), if_pos (by decide)]
    exact Ag_no h' rfl rfl
  · obtain ⟨q, rfl⟩ : ∃ q, m = q + 1 := ⟨m - 1, by omega⟩
    rw [if_neg (fun z => hm (by have := (c_ltl (by decide) (by omega)).mp z; omega)), if_pos ((c_lel (by decide) (by omega)).mpr (by omega)), if_neg (fun z => hm ((c_eq0 (by omega)).mp z)), a_sl (by omega)]
    simp only [wput_eq, ws_same, Nat.add_sub_cancel]
    have hq := k4 q (by omega)
    obtain ⟨i1, i2⟩ := inS_n hq.1 hq.2.1
    have e9 : (wset w 0 4 (nI q)).1 9 q = nI (p q) := by rw [ws_c _ _ (by decide)]; exact hq.2.2
    rw [if_pos (i_n (by omega) (by omega)), n_cl (by omega), e9, if_pos i1, i2]
    obtain ⟨w1, a1, a2, a3, a4⟩ := c_copy (w := wset w 0 4 (nI q)) (i := 10) (j := 10 + 4 * p q) (by omega)
    obtain ⟨w2, b1, b2, b3, b4⟩ := c_forget w1
    rw [a1, bind_s, b1, bind_s]
    obtain ⟨v1, hv1⟩ : ∃ v1, v1 = wset v 0 3 (nI q) := ⟨_, rfl⟩
    rw [← hv1]
    have e0 : v1.1 0 3 = nI q := by rw [hv1, ws_same]
    obtain ⟨v2, c1, c2, c3, c4⟩ := loopG (fun k (s : Wd) i => f_X6_back_b24 k i s) (fun s => some (nI q, s)) 395 (fun j s => (∀ a, a ≠ 1 → s.1 a = v1.1 a) ∧ s.2 = v1.2 ∧ ∀ k, k < j → s.1 1 k = v.1 3 (395 * q + k)) (by omega)
      (fun m s hI => by
        show f_X6_back_b24 (m + 1) (nI 395) s = _
        rw [f_X6_back_b24, if_pos (by decide), hI.1 0 (by decide), e0])
      (fun m j s hj hI => by
        refine ⟨wset s 1 j (v.1 3 (395 * q + j)), ⟨fun a ha => by rw [ws_c _ _ ha]; exact hI.1 a ha, hI.2.1, fun k hk => ?_⟩, ?_⟩
        · by_cases h : k = j
          · rw [h, ws_same]
          · rw [ws_k _ _ (by omega)]; exact hI.2.2 k (by omega)
        · show f_X6_back_b24 (m + 1) (nI j) s = f_X6_back_b24 m (nI (j + 1)) _
          rw [f_X6_back_b24, if_neg (fun q => by have := (c_lle (by decide) (by omega)).mp q; omega), hI.1 0 (by decide), e0, a_lm, nI_add, if_pos (i_n (by omega) (by omega)), if_pos (i_n hj (by omega)), n_cl (by omega), n_cl (by omega), a_al, hI.1 3 (by decide), hv1, ws_c _ _ (by decide)]
          rfl) v1 ⟨fun _ _ => rfl, rfl, fun k hk => absurd hk (by omega)⟩
    have f : ∀ a, a ≠ 0 → a ≠ 2 → (a < 10 ∨ 13 < a) → w2.1 a = w.1 a := fun a g0 g2 ha => by rw [b2 a g2, a2 a (by omega), ws_c _ _ g0]
    have f0 : ∀ k, k ≠ 4 → w2.1 0 k = w.1 0 k := fun k hk => by rw [b2 0 (by decide), a2 0 (by omega), ws_k _ _ (by omega)]
    have f04 : w2.1 0 4 = nI q := by rw [b2 0 (by decide), a2 0 (by omega), ws_same]
    have g : ∀ a, a ≠ 1 → a ≠ 0 → v2.1 a = v.1 a := fun a q1 q0 => by rw [c2 a q1, hv1, ws_c _ _ q0]
    have g0 : ∀ k, k ≠ 3 → v2.1 0 k = v.1 0 k := fun k hk => by rw [c2 0 (by decide), hv1, ws_k _ _ (by omega)]
    have rP : RM v2 = RP v q := by
      funext k
      unfold RM RP
      by_cases hk : k < 395
      · rw [if_pos hk, if_pos hk, c4 k hk]
      · rw [if_neg hk, if_neg hk]
    have rC : RC w2 10 = RC w (10 + 4 * p q) := by
      have e1 : RC w2 10 = RC w1 10 := by
        funext k
        unfold RC
        rw [b2 10 (by decide), b2 (10 + 1) (by decide), b2 (10 + 2) (by decide), b2 (10 + 3) (by decide)]
      rw [e1, a4, RC_ws _ (by omega)]
    refine ⟨nI q, w2, v2, by rw [f04], c1, ?_, ?_, fun c hc => .inl (b4 c hc), ?_, ⟨n, t1, ?_, ?_, fun k hk => ?_⟩, q, p, by omega, f04, ?_, fun i hi => ?_, k5, fun i hi => ?_⟩
    · rw [rC, rP]; exact (k6 q (by omega)).1
    · rw [rP]; exact (k6 q (by omega)).2
    · rw [f0 6 (by decide), f0 7 (by decide), f0 8 (by decide), g 4 (by decide) (by decide)]; exact h3
    · rw [f 6 (by decide) (by decide) (by omega)]; exact t2
    · rw [g0 6 (by decide)]; exact t3
    · rw [f 7 (by decide) (by decide) (by omega), g 5 (by decide) (by decide)]; exact t4 k hk
    · rw [c2 0 (by decide), e0]
    · rw [f 9 (by decide) (by decide) (by omega)]; exact k4 i hi
    · have hpi := k4 i (by omega)
      have ep : RP v2 i = RP v i := by funext k; unfold RP; rw [g 3 (by decide) (by decide)]
      have ec : RC w2 (10 + 4 * p i) = RC w (10 + 4 * p i) := by
        funext k
        unfold RC
        rw [f _ (by omega) (by omega) (by omega), f _ (by omega) (by omega) (by omega), f _ (by omega) (by omega) (by omega), f _ (by omega) (by omega) (by omega)]
      rw [ep, ec]
      exact k6 i (by omega)
