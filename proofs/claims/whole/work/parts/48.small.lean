/-! BOTH SIDES ALIKE: settings told, refusals told, typing -/
theorem s_told {w v : Wd} (h : Sim w v) (k : Int32) : Ag (f_X5_told k w) (f_X6_told k v) := by
  have hr := h.1
  unfold f_X5_told f_X6_told f_X5_told_b28 f_X6_told_b23
  simp only [bd]
  rcases rng_c k 10 (by decide) with ⟨n, hn, rfl, e4, e5⟩ | ⟨e4, e5⟩
  · have hn' : n ≤ 10 := hn
    rw [e4, e5, bind_s, bind_s, if_neg one0, if_neg one0, if_pos (i_n (by omega) (by omega)), n_cl (by omega), RM_at (by omega)]
    have hs : f_X4_setting (nI n) w = some (RM v n) := by
      rw [← hr]
      unfold f_X4_setting f_X4_setting_b64
      by_cases h0 : n = 0
      · subst h0; rfl
      · rw [if_neg (fun q => h0 ((c_eq0 (by omega)).mp q))]
        by_cases h1 : n = 1
        · subst h1; rfl
        · rw [if_neg (fun q => h1 ((c_eql (by decide) (by omega)).mp q)), jlet_eq, a_sl (by omega)]
          by_cases h2 : n < 5
          · rw [w_t (nI_pos' (by omega)) ((c_lel (by decide) (by omega)).mpr (by omega)), bind_s, if_neg one0, if_pos (i_n (by omega) (by omega)), n_cl (by omega), RC_w10 (by omega), show 2 + (n - 2) = n by omega]
          · rw [w_f (fun q => by have := (c_lel (by decide) (by omega)).mp q.2; omega), bind_s, if_pos rfl, a_sl (by omega), w_t (nI_pos' (by omega)) ((c_lel (by decide) (by omega)).mpr (by omega)), bind_s, if_neg one0, if_pos (i_n (by omega) (by omega)), n_cl (by omega), RC_s10 (by omega), show 5 + (n - 2 - 3) = n by omega]
    rw [hs]
    exact Ag_same h _ rfl rfl
  · rw [e4, e5, bind_s, bind_s, if_pos rfl, if_pos rfl]
    exact Ag_bad h rfl rfl
/-- what both sides count, by its number -/
theorem tallies {w v : Wd} (h : Sim w v) {n : Nat} (hn : n ≤ 4) : ∃ x : Int32, f_X5_tally (nI n) w = some x ∧ f_X6_refusedOf (nI n) v = some x := by
  obtain ⟨-, -, -, ⟨a0, a1, a2⟩, ⟨l, -, t2, t3, -⟩, m, p, -, k2, k3, -⟩ := h
  unfold f_X5_tally f_X6_refusedOf f_X6_refusedOf_b30
  rcases (by omega : n = 0 ∨ n = 1 ∨ n = 2 ∨ n = 3 ∨ n = 4) with rfl | rfl | rfl | rfl | rfl
  · exact ⟨_, rfl, by rw [a0]; rfl⟩
  · exact ⟨_, rfl, by show _ = some (w.1 0 7); rw [a1]; rfl⟩
  · exact ⟨_, rfl, by show _ = some (w.1 0 8); rw [a2]; rfl⟩
  · exact ⟨_, rfl, by show _ = some (w.1 6 1); rw [t2, ← t3]; rfl⟩
  · exact ⟨_, rfl, by show _ = some (w.1 0 4); rw [k2, ← k3]; rfl⟩
theorem s_refused {w v : Wd} (h : Sim w v) (k : Int32) : Ag (f_X5_refused k w) (f_X6_refused k v) := by
  unfold f_X5_refused f_X6_refused f_X5_refused_b24 f_X6_refused_b21
  simp only [bd]
  rcases rng_c k 4 (by decide) with ⟨n, hn, rfl, e4, e5⟩ | ⟨e4, e5⟩
  · obtain ⟨x, t1, t2⟩ := tallies h (n := n) hn
    rw [e4, e5, bind_s, bind_s, if_neg one0, if_neg one0, t1, t2]
    exact Ag_same h _ rfl rfl
  · rw [e4, e5, bind_s, bind_s, if_pos rfl, if_pos rfl]
    exact Ag_bad h rfl rfl
/-- a change of the text alone -/
theorem Sim_txt {w v w' v' : Wd} (h : Sim w v) (hC : ∀ a, a ≠ 6 → a ≠ 7 → w'.1 a = w.1 a) (hM1 : v'.1 1 = v.1 1) (hM3 : v'.1 3 = v.1 3) (hM4 : v'.1 4 = v.1 4) (hM0 : v'.1 0 3 = v.1 0 3) (ht : TX w' v') : Sim w' v' := by
  obtain ⟨h1, h2, hk, h3, -, m, p, k1, k2, k3, k4, k5, k6⟩ := h
  have eC : ∀ b, 10 ≤ b → RC w' b = RC w b := fun b hb => by funext k; unfold RC; rw [hC b (by omega) (by omega), hC (b + 1) (by omega) (by omega), hC (b + 2) (by omega) (by omega), hC (b + 3) (by omega) (by omega)]
  have eM : RM v' = RM v := by funext k; unfold RM; rw [hM1]
  refine ⟨?_, ?_, fun c hc => ?_, ?_, ht, m, p, k1, ?_, ?_, fun i hi => ?_, k5, fun i hi => ?_⟩
  · rw [eC 10 (by omega), eM]; exact h1
  · rw [eM]; exact h2
  · unfold ckS
    rw [eC 10 (by omega), hC 2 (by omega) (by omega), hC 3 (by omega) (by omega), hC 4 (by omega) (by omega)]
    exact hk c hc
  · rw [hC 0 (by omega) (by omega), hM4]; exact h3
  · rw [hC 0 (by omega) (by omega)]; exact k2
  · rw [hM0]; exact k3
  · rw [hC 9 (by omega) (by omega)]; exact k4 i hi
  · have ep : RP v' i = RP v i := by funext k; unfold RP; rw [hM3]
    rw [eC _ (by omega), ep]
    exact k6 i hi
theorem s_clear {w v : Wd} (h : Sim w v) : Ag (f_X5_clear w) (f_X6_clear v) := by
  obtain ⟨n, t1, t2, t3, t4⟩ := h.2.2.2.2.1
  refine ⟨nI n, wset w 6 1 0, wset v 0 6 0, ?_, ?_, Sim_txt h (fun a h6 h7 => ws_c _ _ h6) (ws_c _ _ (by decide)) (ws_c _ _ (by decide)) (ws_c _ _ (by decide)) (ws_k _ _ (by decide)) ⟨0, by omega, by rw [ws_same]; rfl, by rw [ws_same]; rfl, fun k hk => absurd hk (by omega)⟩⟩
  · unfold f_X5_clear; rw [← t2]; rfl
  · unfold f_X6_clear; rw [← t3]; rfl
theorem s_type {w v : Wd} (h : Sim w v) (c : Int32) : Ag (f_X5_type c w) (f_X6_type c v) := by
  obtain ⟨n, t1, t2, t3, t4⟩ := h.2.2.2.2.1
  unfold f_X5_type f_X6_type f_X5_type_b46 f_X1_append f_X1_append_b17
  simp only [bd]
  rcases rng_c c 127 (by decide) with ⟨m, hm, rfl, e4, e5⟩ | ⟨e4, e5⟩
  · have hm' : m ≤ 127 := hm
    rw [e4, e5, bind_s, bind_s, if_neg one0, if_neg one0, t2, t3, if_neg (nlt0 (by omega))]
    by_cases hf : n = 150
    · subst hf
      rw [if_neg (by decide), if_pos (by decide), bind_s, if_pos (show ((0 : Int32), w).1 = 0 from rfl)]
      refine ⟨_, _, _, c_ref2 w, ?_, Sim_ref h 2 (by omega)⟩
      rw [if_pos (by decide), if_pos (by decide), if_pos (by decide)]
      rfl
    · rw [if_pos ((c_ltl (by decide) (by omega)).mpr (by omega)), if_neg (fun q => hf ((c_eql (by decide) (by omega)).mp q)), if_pos (i_n (by omega) (by omega)), if_pos (i_n (by omega) (by omega)), n_cl (by omega)]
      simp only [wput_eq, zb_1, if_true]
      rw [ws_c _ _ (by decide), t2, ws_c (c := 5) _ _ (by decide), t3, a_al, bind_s]
      simp only [k10, if_false]
      refine ⟨nI (n + 1), wset (wset w 7 n (nI m)) 6 1 (nI (n + 1)), wset (wset v 5 n (nI m)) 0 6 (nI (n + 1)), by rw [ws_same], by rw [ws_same], ?_⟩
      refine Sim_txt h (fun a h6 h7 => by rw [ws_c _ _ h6, ws_c _ _ h7]) (by rw [ws_c _ _ (by decide), ws_c _ _ (by decide)]) (by rw [ws_c _ _ (by decide), ws_c _ _ (by decide)]) (by rw [ws_c _ _ (by decide), ws_c _ _ (by decide)]) (by rw [ws_k _ _ (by decide), ws_c _ _ (by decide)]) ⟨n + 1, by omega, by rw [ws_same], by rw [ws_same], fun k hk => ?_⟩
      rw [ws_c _ _ (by decide), ws_c (c := 0) _ _ (by decide)]
      by_cases hkn : k = n
      · subst hkn
        rw [ws_same, ws_same]
        exact ⟨rfl, m, by omega, by omega, rfl⟩
      · rw [ws_k _ _ (by omega), ws_k _ _ (by omega)]
        exact t4 k (by omega)
  · rw [e4, e5, bind_s, bind_s, if_pos rfl, if_pos rfl]
    exact Ag_bad h rfl rfl
