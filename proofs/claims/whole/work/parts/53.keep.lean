/-! STATES KEPT: copies of rows, on both sides -/
theorem c_copy {w : Wd} {i j : Nat} (hij : i + 3 < j ∨ j + 3 < i) : ∃ w' : Wd, f_X4_copyFrom i j w = some w' ∧ (∀ a, a < i ∨ i + 3 < a → w'.1 a = w.1 a) ∧ w'.2 = w.2 ∧ RC w' i = RC w j := by
  unfold f_X4_copyFrom
  simp only [wput_eq, wputf_eq]
  refine ⟨_, rfl, fun a ha => ?_, rfl, ?_⟩
  · simp only [wfun_1]
    rw [if_neg (by omega), if_neg (by omega), if_neg (by omega), ws_c _ _ (by omega), ws_c _ _ (by omega)]
  · funext k
    unfold RC
    simp only [wfun_1]
    by_cases h0 : k = 0
    · rw [if_pos h0, if_pos h0, if_neg (by omega), if_neg (by omega), if_neg (by omega), ws_k _ _ (by omega), ws_same]
    · rw [if_neg h0, if_neg h0]
      by_cases h1 : k = 1
      · rw [if_pos h1, if_pos h1, if_neg (by omega), if_neg (by omega), if_neg (by omega), ws_same, ws_c _ _ (by omega)]
      · rw [if_neg h1, if_neg h1]
        by_cases h2 : k < 5
        · rw [if_pos h2, if_pos h2, if_neg (by omega), if_neg (by omega), if_pos trivial]
          unfold va_cpy
          rw [if_pos (by omega), ws_c _ _ (by omega), ws_c _ _ (by omega), show 0 + (k - 2 - 0) = k - 2 by omega]
        · rw [if_neg h2, if_neg h2]
          by_cases h3 : k < 11
          · rw [if_pos h3, if_pos h3, if_neg (by omega), if_pos trivial]
            unfold va_cpy
            rw [if_pos (by omega), if_neg (by omega), ws_c _ _ (by omega), ws_c _ _ (by omega), show 0 + (k - 5 - 0) = k - 5 by omega]
          · rw [if_neg h3, if_neg h3]
            by_cases h4 : k < 395
            · rw [if_pos h4, if_pos h4, if_pos trivial]
              unfold va_cpy
              rw [if_pos (by omega), if_neg (by omega), if_neg (by omega), ws_c _ _ (by omega), ws_c _ _ (by omega), show 0 + (k - 11 - 0) = k - 11 by omega]
            · rw [if_neg h4, if_neg h4]
theorem m_aside (v : Wd) : ∃ v' : Wd, f_X6_laysAside v = some v' ∧ (∀ a, a ≠ 2 → v'.1 a = v.1 a) ∧ v'.2 = v.2 ∧ ∀ k, k < 395 → v'.1 2 k = RM v k := by
  unfold f_X6_laysAside
  obtain ⟨v', a1, a2, a3, a4⟩ := loopG (fun n (s : Wd) i => f_X6_laysAside_b2 n i s) (fun s => some s) 395 (fun j s => (∀ a, a ≠ 2 → s.1 a = v.1 a) ∧ s.2 = v.2 ∧ ∀ k, k < j → s.1 2 k = RM v k) (by omega)
    (fun m s hI => by
      show f_X6_laysAside_b2 (m + 1) (nI 395) s = _
      rw [f_X6_laysAside_b2, if_pos (by decide)])
    (fun m j s hj hI => by
      refine ⟨wset s 2 j (RM v j), ⟨fun a ha => by rw [ws_c _ _ ha]; exact hI.1 a ha, hI.2.1, fun k hk => ?_⟩, ?_⟩
      · by_cases h : k = j
        · rw [h, ws_same]
        · rw [ws_k _ _ (by omega)]; exact hI.2.2 k (by omega)
      · show f_X6_laysAside_b2 (m + 1) (nI j) s = f_X6_laysAside_b2 m (nI (j + 1)) _
        rw [f_X6_laysAside_b2, if_neg (fun q => by have := (c_lle (by decide) (by omega)).mp q; omega), if_pos (i_n hj (by omega)), if_pos (i_n hj (by omega)), n_cl (by omega), a_al, hI.1 1 (by decide), RM_at hj]
        rfl) v ⟨fun _ _ => rfl, rfl, fun k hk => absurd hk (by omega)⟩
  exact ⟨v', a1, a2, a3, a4⟩
theorem c_forget (w : Wd) : ∃ w' : Wd, f_X2_forget w = some w' ∧ (∀ a, a ≠ 2 → w'.1 a = w.1 a) ∧ w'.2 = w.2 ∧ ∀ k, k < 32 → w'.1 2 k = -1 := by
  unfold f_X2_forget f_J7_fill_53178_2
  obtain ⟨w', a1, a2, a3, a4⟩ := loopG (fun n (s : Wd) i => f_J7_fill_53178_2_b5 (-1) 32 n i s) (fun s => some s) 32 (fun j s => (∀ a, a ≠ 2 → s.1 a = w.1 a) ∧ s.2 = w.2 ∧ ∀ k, k < j → s.1 2 k = -1) (by omega)
    (fun m s hI => by
      show f_J7_fill_53178_2_b5 (-1) 32 (m + 1) (nI 32) s = _
      rw [f_J7_fill_53178_2_b5, if_pos (by decide)])
    (fun m j s hj hI => by
      refine ⟨wset s 2 j (-1), ⟨fun a ha => by rw [ws_c _ _ ha]; exact hI.1 a ha, hI.2.1, fun k hk => ?_⟩, ?_⟩
      · by_cases h : k = j
        · rw [h, ws_same]
        · rw [ws_k _ _ (by omega)]; exact hI.2.2 k (by omega)
      · show f_J7_fill_53178_2_b5 (-1) 32 (m + 1) (nI j) s = f_J7_fill_53178_2_b5 (-1) 32 m (nI (j + 1)) _
        rw [f_J7_fill_53178_2_b5, if_neg (fun q => by have := (c_lle (by decide) (by omega)).mp q; omega), if_pos (i_n hj (by omega)), n_cl (by omega), a_al]
        rfl) w ⟨fun _ _ => rfl, rfl, fun k hk => absurd hk (by omega)⟩
  rw [show f_J7_fill_53178_2_b5 (-1) 32 FUEL 0 w = _ from a1, bind_s]
  exact ⟨w', rfl, a2, a3, a4⟩
theorem inS_n {n : Nat} (h1 : 2 ≤ n) (h2 : n ≤ 6) : inS (nI n) = true ∧ sc (nI n) = 10 + 4 * n := by
  refine ⟨?_, by unfold sc; rw [n_cl (by omega)]⟩
  rcases (by omega : n = 2 ∨ n = 3 ∨ n = 4 ∨ n = 5 ∨ n = 6) with rfl | rfl | rfl | rfl | rfl <;> rfl
theorem c_keep54 {w : Wd} {n q : Nat} (hn : n < 5) (hq1 : 2 ≤ q) (hq2 : q ≤ 6) (h4 : w.1 0 4 = nI n) (h9 : w.1 9 n = nI q) : ∃ w' : Wd, f_X5_keepBefore_b54 w = some w' ∧ (∀ a, a ≠ 0 → a ≠ 2 → (a < 10 + 4 * q ∨ 13 + 4 * q < a) → w'.1 a = w.1 a) ∧ (∀ k, k ≠ 4 → w'.1 0 k = w.1 0 k) ∧ w'.1 0 4 = nI (n + 1) ∧ RC w' (10 + 4 * q) = RC w 14 ∧ (∀ k, k < 32 → w'.1 2 k = -1) ∧ w'.2 = w.2 := by
  unfold f_X5_keepBefore_b54
  obtain ⟨i1, i2⟩ := inS_n hq1 hq2
  rw [h4, if_pos (i_n (by omega) (by omega)), n_cl (by omega), h9, if_pos i1, i2]
  obtain ⟨w1, a1, a2, a3, a4⟩ := c_copy (w := w) (i := 10 + 4 * q) (j := 14) (by omega)
  rw [a1, bind_s, wput_eq, a2 0 (by omega), h4, a_al]
  obtain ⟨w2, b1, b2, b3, b4⟩ := c_forget (wset w1 0 4 (nI (n + 1)))
  rw [b1, bind_s]
  refine ⟨w2, rfl, fun a h0 h2 ha => ?_, fun k hk => ?_, ?_, ?_, b4, b3.trans a3⟩
  · rw [b2 a h2, ws_c _ _ h0, a2 a (by omega)]
  · rw [b2 0 (by omega), ws_k _ _ (by omega), a2 0 (by omega)]
  · rw [b2 0 (by omega), ws_same]
  · rw [← a4]
    funext k
    unfold RC
    rw [b2 _ (by omega), b2 _ (by omega), b2 _ (by omega), b2 _ (by omega), ws_c _ _ (by omega), ws_c _ _ (by omega), ws_c _ _ (by omega), ws_c _ _ (by omega)]
theorem c_keep {w : Wd} {n : Nat} {p : Nat → Nat} (hn : n ≤ 5) (h4 : w.1 0 4 = nI n) (hp : ∀ i, i < 5 → 2 ≤ p i ∧ p i ≤ 6 ∧ w.1 9 i = nI (p i)) : ∃ (w' : Wd) (p' : Nat → Nat) (m : Nat), f_X5_keepBefore w = some w' ∧ (m = if n = 5 then 4 else n) ∧ (p' = if n = 5 then (fun i => if i < 4 then p (i + 1) else p 0) else p) ∧ w'.1 0 4 = nI (m + 1) ∧ (∀ i, i < 5 → w'.1 9 i = nI (p' i)) ∧ (∀ a, a ≠ 0 → a ≠ 2 → a ≠ 9 → (a < 10 + 4 * p' m ∨ 13 + 4 * p' m < a) → w'.1 a = w.1 a) ∧ (∀ k, k ≠ 4 → w'.1 0 k = w.1 0 k) ∧ RC w' (10 + 4 * p' m) = RC w 14 ∧ (∀ k, k < 32 → w'.1 2 k = -1) ∧ w'.2 = w.2 := by
  unfold f_X5_keepBefore
  by_cases h5 : n = 5
  · subst h5
    have hp0 := hp 0 (by omega)
    rw [h4, if_neg (by decide), if_pos (by decide), show ((0 : Int32).toNatClampNeg) = 0 from rfl, hp0.2.2]
    have hS0 := inS_n hp0.1 hp0.2.1
    obtain ⟨w1, a1, a0, a2, a3, a4⟩ := loopE (fun k (s : Wd) i => f_X5_keepBefore_b17 (nI (p 0)) k i s) (fun s => f_X5_keepBefore_b54 (wset (wset s 9 4 (nI (p 0))) 0 4 4)) 5 (fun j s => 1 ≤ j ∧ (∀ a, a ≠ 9 → s.1 a = w.1 a) ∧ s.2 = w.2 ∧ ∀ i, i < 5 → s.1 9 i = if i + 1 < j then nI (p (i + 1)) else nI (p i))
      (fun m' s hI => by
        show f_X5_keepBefore_b17 (nI (p 0)) (m' + 1) (nI 5) s = _
        rw [f_X5_keepBefore_b17, if_pos (by decide), if_pos ⟨by decide, hS0.1⟩]
        rfl)
      (fun m' j s hj hI => by
        have hpj := hp j hj
        have hSj := inS_n hpj.1 hpj.2.1
        have ej := hI.2.2.2 j hj
        rw [if_neg (by omega)] at ej
        refine ⟨wset s 9 (j - 1) (nI (p j)), ⟨by omega, fun a ha => by rw [ws_c _ _ ha]; exact hI.2.1 a ha, hI.2.2.1, fun i hi => ?_⟩, ?_⟩
        · by_cases hij : i = j - 1
          · rw [hij, ws_same, if_pos (by omega), show j - 1 + 1 = j by omega]
          · rw [ws_k _ _ (by omega), hI.2.2.2 i hi]
            by_cases h : i + 1 < j
            · rw [if_pos h, if_pos (by omega)]
            · rw [if_neg h, if_neg (by omega)]
        · show f_X5_keepBefore_b17 (nI (p 0)) (m' + 1) (nI j) s = f_X5_keepBefore_b17 (nI (p 0)) m' (nI (j + 1)) _
          rw [f_X5_keepBefore_b17, if_neg (fun q => by have := (c_lle (by decide) (by omega)).mp q; omega), if_pos (i_n hj (by omega)), a_sl hI.1, n_cl (by omega), ej, if_pos ⟨i_n (by omega) (by omega), hSj.1⟩, n_cl (by omega), a_al]
          rfl) 4 FUEL 1 w (by omega) (by unfold FUEL; omega) ⟨by omega, fun _ _ => rfl, rfl, fun i hi => by rw [if_neg (by omega)]; exact (hp i hi).2.2⟩
    obtain ⟨w2, hw2⟩ : ∃ w2, w2 = wset (wset w1 9 4 (nI (p 0))) 0 4 4 := ⟨_, rfl⟩
    have e9 : ∀ i, i < 5 → w2.1 9 i = nI (if i < 4 then p (i + 1) else p 0) := fun i hi => by
      rw [hw2, ws_c _ _ (by decide)]
      by_cases h : i = 4
      · rw [h, ws_same, if_neg (by omega)]
      · rw [ws_k _ _ (by omega), a4 i hi, if_pos (by omega), if_pos (by omega)]
    obtain ⟨w3, b1, b2, b3, b4, b5, b6, b7⟩ := c_keep54 (w := w2) (n := 4) (q := p 0) (by omega) hp0.1 hp0.2.1 (by rw [hw2, ws_same]; rfl) (by rw [e9 4 (by omega)]; rfl)
    have f2 : ∀ a, a ≠ 0 → a ≠ 9 → w2.1 a = w.1 a := fun a h0 h9 => by rw [hw2, ws_c _ _ h0, ws_c _ _ h9, a2 a h9]
    refine ⟨w3, (fun i => if i < 4 then p (i + 1) else p 0), 4, ?_, rfl, by rw [if_pos rfl], b4, fun i hi => ?_, fun a h0 h2 h9 ha => ?_, fun k hk => ?_, ?_, b6, ?_⟩
    · rw [show f_X5_keepBefore_b17 (nI (p 0)) FUEL 1 w = _ from a1, ← hw2, b1]
    · rw [b2 9 (by omega) (by omega) (by omega)]
      exact e9 i hi
    · rw [b2 a h0 h2 ha, f2 a h0 h9]
    · rw [b3 k hk, hw2, ws_k _ _ (by omega), ws_c _ _ (by decide), a2 0 (by omega)]
    · show RC w3 (10 + 4 * p 0) = _
      rw [b5]
      funext k
      unfold RC
      rw [f2 14 (by omega) (by omega), f2 (14 + 1) (by omega) (by omega), f2 (14 + 2) (by omega) (by omega), f2 (14 + 3) (by omega) (by omega)]
    · rw [b7, hw2]; exact a3
  · rw [h4, if_pos ((c_ltl (by decide) (by omega)).mpr (by omega))]
    have hpn := hp n (by omega)
    obtain ⟨w3, b1, b2, b3, b4, b5, b6, b7⟩ := c_keep54 (w := w) (n := n) (q := p n) (by omega) hpn.1 hpn.2.1 h4 hpn.2.2
    refine ⟨w3, p, n, b1, by rw [if_neg h5], by rw [if_neg h5], b4, fun i hi => ?_, fun a h0 h2 h9 ha => b2 a h0 h2 ha, b3, b5, b6, b7⟩
    rw [b2 9 (by omega) (by omega) (by omega)]
    exact (hp i hi).2.2
theorem m_rem49 {v : Wd} {n : Nat} (hn : n < 5) (h3 : v.1 0 3 = nI n) : ∃ v' : Wd, f_X6_remembers_b49 v = some v' ∧ (∀ a, a ≠ 0 → a ≠ 3 → v'.1 a = v.1 a) ∧ (∀ k, k ≠ 3 → v'.1 0 k = v.1 0 k) ∧ v'.1 0 3 = nI (n + 1) ∧ (∀ k, k < 395 → v'.1 3 (395 * n + k) = v.1 2 k) ∧ (∀ k, k < 395 * n → v'.1 3 k = v.1 3 k) ∧ v'.2 = v.2 := by
  unfold f_X6_remembers_b49
  obtain ⟨v1, a1, a2, a3, a4, a5⟩ := loopG (fun k (s : Wd) i => f_X6_remembers_b51 k i s) (fun s => some (wset s 0 3 (nI (n + 1)))) 395 (fun j s => (∀ a, a ≠ 3 → s.1 a = v.1 a) ∧ s.2 = v.2 ∧ (∀ k, k < j → s.1 3 (395 * n + k) = v.1 2 k) ∧ (∀ k, k < 395 * n → s.1 3 k = v.1 3 k)) (by omega)
    (fun m s hI => by
      show f_X6_remembers_b51 (m + 1) (nI 395) s = _
      rw [f_X6_remembers_b51, if_pos (by decide), hI.1 0 (by decide), h3, a_al]
      rfl)
    (fun m j s hj hI => by
      refine ⟨wset s 3 (395 * n + j) (v.1 2 j), ⟨fun a ha => by rw [ws_c _ _ ha]; exact hI.1 a ha, hI.2.1, fun k hk => ?_, fun k hk => ?_⟩, ?_⟩
      · by_cases h : k = j
        · rw [h, ws_same]
        · rw [ws_k _ _ (by omega)]; exact hI.2.2.1 k (by omega)
      · rw [ws_k _ _ (by omega)]; exact hI.2.2.2 k hk
      · show f_X6_remembers_b51 (m + 1) (nI j) s = f_X6_remembers_b51 m (nI (j + 1)) _
        rw [f_X6_remembers_b51, if_neg (fun q => by have := (c_lle (by decide) (by omega)).mp q; omega), if_pos (i_n hj (by omega)), hI.1 0 (by decide), h3, a_lm, nI_add, if_pos (i_n (by omega) (by omega)), n_cl (by omega), n_cl (by omega), a_al, hI.1 2 (by decide)]
        rfl) v ⟨fun _ _ => rfl, rfl, fun k hk => absurd hk (by omega), fun _ _ => rfl⟩
  refine ⟨_, a1, fun a h0 h3 => by rw [ws_c _ _ h0]; exact a2 a h3, fun k hk => by rw [ws_k _ _ (by omega), a2 0 (by decide)], ws_same _ _ _ _, fun k hk => by rw [ws_c _ _ (by decide)]; exact a4 k hk, fun k hk => by rw [ws_c _ _ (by decide)]; exact a5 k hk, a3⟩
theorem m_rem {v : Wd} {n : Nat} (hn : n ≤ 5) (h3 : v.1 0 3 = nI n) : ∃ (v' : Wd) (m : Nat), f_X6_remembers v = some v' ∧ (m = if n = 5 then 4 else n) ∧ (∀ a, a ≠ 0 → a ≠ 3 → v'.1 a = v.1 a) ∧ (∀ k, k ≠ 3 → v'.1 0 k = v.1 0 k) ∧ v'.1 0 3 = nI (m + 1) ∧ (∀ k, k < 395 → RP v' m k = v.1 2 k) ∧ (∀ i, i < m → RP v' i = RP v (if n = 5 then i + 1 else i)) ∧ v'.2 = v.2 := by
  unfold f_X6_remembers
  by_cases h5 : n = 5
  · subst h5
    rw [h3, if_pos (show nI 5 = (5 : Int32) from rfl)]
    obtain ⟨v1, a1, a2, a3, a4, a5⟩ := loopG (fun k (s : Wd) i => f_X6_remembers_b10 k i s) (fun s => f_X6_remembers_b49 (wset s 0 3 (nI 4))) 1580 (fun j s => (∀ a, a ≠ 3 → s.1 a = v.1 a) ∧ s.2 = v.2 ∧ (∀ k, k < j → s.1 3 k = v.1 3 (k + 395)) ∧ (∀ k, j ≤ k → s.1 3 k = v.1 3 k)) (by omega)
      (fun m s hI => by
        show f_X6_remembers_b10 (m + 1) (nI 1580) s = _
        rw [f_X6_remembers_b10, if_pos (by decide), hI.1 0 (by decide), h3]
        rfl)
      (fun m j s hj hI => by
        refine ⟨wset s 3 j (v.1 3 (j + 395)), ⟨fun a ha => by rw [ws_c _ _ ha]; exact hI.1 a ha, hI.2.1, fun k hk => ?_, fun k hk => ?_⟩, ?_⟩
        · by_cases h : k = j
          · rw [h, ws_same]
          · rw [ws_k _ _ (by omega)]; exact hI.2.2.1 k (by omega)
        · rw [ws_k _ _ (by omega)]; exact hI.2.2.2 k (by omega)
        · show f_X6_remembers_b10 (m + 1) (nI j) s = f_X6_remembers_b10 m (nI (j + 1)) _
          rw [f_X6_remembers_b10, if_neg (fun q => by have := (c_lle (by decide) (by omega)).mp q; omega), a_al, if_pos (i_n (by omega) (by omega)), if_pos (i_n (by omega) (by omega)), n_cl (by omega), n_cl (by omega), a_al, hI.2.2.2 _ (by omega)]
          rfl) v ⟨fun _ _ => rfl, rfl, fun k hk => absurd hk (by omega), fun _ _ => rfl⟩
    obtain ⟨v2, hv2⟩ : ∃ v2, v2 = wset v1 0 3 (nI 4) := ⟨_, rfl⟩
    obtain ⟨v3, b1, b2, b3, b4, b5, b6, b7⟩ := m_rem49 (v := v2) (n := 4) (by omega) (by rw [hv2, ws_same])
    refine ⟨v3, 4, ?_, rfl, fun a h0 h3 => ?_, fun k hk => ?_, b4, fun k hk => ?_, fun i hi => ?_, ?_⟩
    · rw [show f_X6_remembers_b10 FUEL 0 v = _ from a1, ← hv2, b1]
    · rw [b2 a h0 h3, hv2, ws_c _ _ h0, a2 a h3]
    · rw [b3 k hk, hv2, ws_k _ _ (by omega), a2 0 (by decide)]
    · unfold RP
      rw [if_pos hk, b5 k hk, hv2, ws_c _ _ (by decide), a2 2 (by decide)]
    · rw [if_pos rfl]
      funext k
      unfold RP
      by_cases hk : k < 395
      · rw [if_pos hk, if_pos hk, b6 _ (by omega), hv2, ws_c _ _ (by decide), a4 _ (by omega), show 395 * i + k + 395 = 395 * (i + 1) + k by omega]
      · rw [if_neg hk, if_neg hk]
    · rw [b7, hv2]; exact a3
  · rw [h3, if_neg (fun q => h5 ((c_eql (by decide) (by omega)).mp q))]
    obtain ⟨v3, b1, b2, b3, b4, b5, b6, b7⟩ := m_rem49 (v := v) (n := n) (by omega) h3
    refine ⟨v3, n, b1, by rw [if_neg h5], b2, b3, b4, fun k hk => ?_, fun i hi => ?_, b7⟩
    · unfold RP
      rw [if_pos hk, b5 k hk]
    · rw [if_neg h5]
      funext k
      unfold RP
      by_cases hk : k < 395
      · have : 395 * i + k < 395 * n := by
          have := Nat.mul_le_mul_left 395 (show i + 1 ≤ n from hi)
          omega
        rw [if_pos hk, if_pos hk, b6 _ this]
      · rw [if_neg hk, if_neg hk]
