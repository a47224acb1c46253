/-! THE TEXT READ: numbers, orders, all -/
theorem m1_ne {m : Nat} (h : m ≤ 20) : ¬ nI m = (-1 : Int32) := fun q => by
  have := congrArg Int32.toInt q
  rw [toI_n (by omega)] at this
  have e1 : (-1 : Int32).toInt = -1 := by decide
  omega
theorem RA_inend {w : Wd} {n : Nat} {b : Nat → Nat} {m ord N fig : Nat} {it : Nat → Int32} (h : TC w n b) (hp : PS w (nI m) ord N it fig) (hm : m ≤ 20) : RA w n = some (nI n, w) := by
  rw [RA_end h]
  unfold f_X1_readAll_b58 f_X1_readAll_b77 f_X1_readAll_b81
  rw [hp.1, if_neg (m1_ne hm), h.2.1]
theorem num_b {n : Nat} {b : Nat → Nat} {w v : Wd} {m ord N fig s to : Nat} {it : Nat → Int32} (hc : TC w n b) (hm : TM v n b) (hs : s ≤ n) (hN : N ≤ s) (hm9 : m ≤ 9) (hto : to < 375) (h24 : v.1 0 24 = nI s) (hp : PS w (nI (m + 1)) ord N it fig) (hnd : 0 < fig → s < n → ¬ (48 ≤ b s ∧ b s ≤ 57)) :
    Flt w v n (RA w s) (f_X6_takesNumber (nI to) v) ∨ ∃ (s1 x1 f1 : Nat) (w1 : Wd), s < s1 ∧ s1 ≤ n ∧ RA w s = RA w1 s1 ∧ CF w w1 ∧ PS w1 (nI m) ord (N + 1) (ins it N (nI x1)) f1 ∧ 0 < f1 ∧ (s1 < n → ¬ (48 ≤ b s1 ∧ b s1 ≤ 57)) ∧ f_X6_takesNumber (nI to) v = some (1, wset (wset v 0 24 (nI s1)) 12 to (nI x1)) := by
  have hn := hc.1
  obtain ⟨s2, a1, a2, a3, a4, a5⟩ := m_blanks hm hs h24
  obtain ⟨w2, f2, b1, b2, b3, b4, b5⟩ := c_blanks (s2 - s) s w (nI (m + 1)) ord N it fig hc (by omega) (by omega) hp (fun k h1 h2 => a4 k h1 (by omega))
  rw [show s + (s2 - s) = s2 by omega] at b1
  have hm2 : TM (wset v 0 24 (nI s2)) n b := TM_MF hm ((MF.rf v).s0 _ (by omega))
  have hc2 := TC_CF hc b3
  have eM : f_X6_takesNumber (nI to) v = f_X6_takesNumber_b11 (nI to) (nI s2) ((FUEL - 1) + 1) 0 (wset v 0 24 (nI s2)) := by
    unfold f_X6_takesNumber
    rw [a3, bind_s, ws_same, jlet_eq]
    rfl
  rw [b1, eM]
  by_cases hd : s2 < n ∧ (48 ≤ b s2 ∧ b s2 ≤ 57)
  · have hf2 : f2 = 0 := by
      rcases Nat.eq_zero_or_pos (s2 - s) with z | z
      · rcases Nat.eq_zero_or_pos fig with y | y
        · rw [b4 z, y]
        · have e : s2 = s := by omega
          rw [e] at hd
          exact absurd hd.2 (hnd y hd.1)
      · exact b5 z
    rw [hf2] at b2
    obtain ⟨w3, c1, c2, c3⟩ := t_fig0 (d := b s2 - 48) b2 (by omega) (by omega)
    have eC : RA w2 s2 = RA w3 (s2 + 1) := by rw [RA_step hc2 hd.1, dg_t hd.2.1 hd.2.2, c1, bind_s, if_neg one0]
    have eM2 : f_X6_takesNumber_b11 (nI to) (nI s2) ((FUEL - 1) + 1) 0 (wset v 0 24 (nI s2)) = f_X6_takesNumber_b11 (nI to) (nI s2) (FUEL - 1) (nI (b s2 - 48)) (wset v 0 24 (nI (s2 + 1))) := by
      rw [f_X6_takesNumber_b11, m_isAt hm2 a2 (ws_same _ _ _ _) (by decide) (by decide), if_pos hd, bind_s, if_neg one0, ws_same, a_al, if_neg (fun q => by have := (c_eq (by omega) (by omega)).mp q; omega), if_pos (i_n (by omega) (by omega)), n_cl (by omega), (hm2.2.2 s2 hd.1).1, jlet_eq, wput_eq, a_al, ws_ws]
      rw [show (0 : Int32) = nI 0 from rfl, a_lm, nI_add, a_sl (by show 48 ≤ _; omega), show 10 * 0 + b s2 - 48 = b s2 - 48 by omega]
    rw [eC, eM2]
    rcases dig_b (n - (s2 + 1)) (s2 + 1) (FUEL - 1) w3 (wset v 0 24 (nI (s2 + 1))) m ord N (ins it N (nI (b s2 - 48))) s2 (b s2 - 48) to (TC_CF hc2 c3) (TM_MF hm ((MF.rf v).s0 _ (by omega))) (by omega) (by unfold FUEL; omega) (by omega) (by omega) (by omega) (by omega) hto (ws_same _ _ _ _) (by rw [show s2 + 1 - s2 = 1 by omega]; exact c2) (ins_s _ _ _) with ⟨p, w4, v4, q1, q2, q3, q4, q5, q6⟩ | ⟨s1, x1, f1, w4, q1, q2, q3, q4, q5, q6, q7, q8⟩
    · exact .inl ⟨p, w4, v4, q1, q2, (b3.tr c3).tr q3, q4, q5, ((MF.rf v).s0 _ (by omega)).tr q6⟩
    · refine .inr ⟨s1, x1, f1, w4, by omega, q2, q3, (b3.tr c3).tr q4, by rw [ins_ins] at q5; exact q5, q6, q7, ?_⟩
      rw [q8, ws_ws]
  · left
    have eM2 : f_X6_takesNumber_b11 (nI to) (nI s2) ((FUEL - 1) + 1) 0 (wset v 0 24 (nI s2)) = some (0, wset (wset (wset v 0 24 (nI s2)) 12 to 0) 0 25 (nI s2)) := by
      rw [f_X6_takesNumber_b11, m_isAt hm2 a2 (ws_same _ _ _ _) (by decide) (by decide), if_neg hd, bind_s, if_pos rfl, if_pos (i_n hto (by omega)), n_cl (by omega), wput_eq, ws_c (c := 12) _ _ (by decide), ws_same, if_neg (fun q => by have := (c_lt (by omega) (by omega)).mp q; omega), m_fails, bind_s]
      rfl
    rw [eM2]
    by_cases hsn : s2 = n
    · rw [hsn, RA_inend hc2 b2 (by omega)]
      exact ⟨n, w2, _, Nat.le_refl _, rfl, b3, rfl, ws_same _ _ _ _, (((MF.rf v).s0 _ (by omega)).s11 _ _ (by omega)).s0 _ (by omega)⟩
    · rcases t_in (x := b s2) b2 (by omega) (by omega) (hc.2.2 s2 (by omega)).2 (fun q => hd ⟨by omega, q⟩) (a5 (by omega)) with ⟨-, hh, -⟩ | ⟨-, w3, c1, c2⟩
      · omega
      · refine ⟨s2, w3, _, a2, ?_, b3.tr c2, rfl, ws_same _ _ _ _, (((MF.rf v).s0 _ (by omega)).s11 _ _ (by omega)).s0 _ (by omega)⟩
        rw [RA_step hc2 (by omega), c1, bind_s, if_pos rfl]
theorem nums_b {n : Nat} {b : Nat → Nat} {M ord : Nat} (hM : M ≤ 5) (hord : ord < 75) : ∀ (j k f : Nat) (w v : Wd) (N fig s : Nat) (it : Nat → Int32), TC w n b → TM v n b → k + j = M → j < f → s ≤ n → N ≤ s → v.1 0 24 = nI s → v.1 0 23 = nI ord → PS w (nI j) ord N it fig → (0 < fig → s < n → ¬ (48 ≤ b s ∧ b s ≤ 57)) →
    Flt w v n (RA w s) (f_X6_takesOrder_b53 (nI M) f (nI k) v) ∨ ∃ (s1 : Nat) (w1 v1 : Wd) (it1 : Nat → Int32), s < s1 ∧ s1 ≤ n ∧ RA w s = RA w1 s1 ∧ CF w w1 ∧ PS w1 (-1) (ord + 1) (N + j) it1 0 ∧ N + j ≤ s1 ∧ f_X6_takesOrder_b53 (nI M) f (nI k) v = some (1, v1) ∧ MF v v1 ∧ v1.1 0 24 = nI s1 ∧ v1.1 0 23 = nI (ord + 1) ∧ v1.1 11 = v.1 11 ∧ (∀ i, i < N → it1 i = it i) ∧ (∀ i, i < j → it1 (N + i) = v1.1 12 (5 * ord + (k + i))) ∧ (∀ q, (q < 5 * ord + k) → v1.1 12 q = v.1 12 q) := by
  intro j
  induction j with
  | zero =>
    intro k f w v N fig s it hc hm hj hf hs hN h24 h23 hp hnd
    obtain ⟨f, rfl⟩ : ∃ g, f = g + 1 := ⟨f - 1, by omega⟩
    have hn := hc.1
    obtain ⟨s2, a1, a2, a3, a4, a5⟩ := m_blanks hm hs h24
    obtain ⟨w2, f2, b1, b2, b3, b4, b5⟩ := c_blanks (s2 - s) s w (nI 0) ord N it fig hc (by omega) (by omega) hp (fun k h1 h2 => a4 k h1 (by omega))
    rw [show s + (s2 - s) = s2 by omega] at b1
    have hm2 : TM (wset v 0 24 (nI s2)) n b := TM_MF hm ((MF.rf v).s0 _ (by omega))
    have hc2 := TC_CF hc b3
    have eM : f_X6_takesOrder_b53 (nI M) (f + 1) (nI k) v = (f_X6_isAt 59 59 (wset v 0 24 (nI s2))).bind (fun v8 => if v8 = 0 then ((f_X6_fails (nI s2) (wset v 0 24 (nI s2))).bind (fun z11 => if zb z11.1 = true then some (z11.1, z11.2) else none)) else some (1, wset (wset (wset v 0 24 (nI s2)) 0 24 (nI (s2 + 1))) 0 23 (nI (ord + 1)))) := by
      rw [f_X6_takesOrder_b53, if_pos ((c_le (by omega) (by omega)).mpr (by omega)), a3, bind_s]
      simp only [wput_eq, ws_same, a_al]
      rw [ws_k (k := 24) (k' := 23) _ _ (by decide), ws_k (k := 24) (k' := 23) _ _ (by decide), h23, a_al]
      rfl
    rw [b1, eM, m_isAt hm2 a2 (ws_same _ _ _ _) (by decide) (by decide), bind_s]
    by_cases h59 : s2 < n ∧ 59 ≤ b s2 ∧ b s2 ≤ 59
    · rw [if_pos h59, if_neg one0]
      right
      rcases t_in (x := b s2) b2 (by omega) (by omega) (hc.2.2 s2 h59.1).2 (by omega) (by omega) with ⟨-, -, w3, c1, c2, c3⟩ | ⟨hh, -⟩
      · refine ⟨s2 + 1, w3, _, it, by omega, by omega, ?_, b3.tr c3, c2, by omega, rfl, (((MF.rf v).s0 _ (by omega)).s0 _ (by omega)).s0 _ (by omega), ?_, ws_same _ _ _ _, ?_, fun _ _ => rfl, fun i hi => by omega, fun q hq => ?_⟩
        · rw [RA_step hc2 h59.1, c1, bind_s, if_neg one0]
        · rw [ws_k _ _ (by decide), ws_same]
        · rw [ws_c _ _ (by decide), ws_c _ _ (by decide), ws_c _ _ (by decide)]
        · rw [ws_c _ _ (by decide), ws_c _ _ (by decide), ws_c _ _ (by decide)]
      · exact absurd ⟨by omega, rfl⟩ hh
    · rw [if_neg h59, if_pos rfl, m_fails, bind_s]
      left
      by_cases hsn : s2 = n
      · rw [hsn, RA_inend hc2 b2 (by omega)]
        exact ⟨n, w2, _, Nat.le_refl _, rfl, b3, rfl, ws_same _ _ _ _, ((MF.rf v).s0 _ (by omega)).s0 _ (by omega)⟩
      · by_cases hd : 48 ≤ b s2 ∧ b s2 ≤ 57
        · have hf2 : f2 = 0 := by
            rcases Nat.eq_zero_or_pos (s2 - s) with z | z
            · rcases Nat.eq_zero_or_pos fig with y | y
              · rw [b4 z, y]
              · have e : s2 = s := by omega
                rw [e] at hd hsn
                exact absurd hd (hnd y (by omega))
            · exact b5 z
          rw [hf2] at b2
          refine ⟨s2, w2, _, a2, ?_, b3, rfl, ws_same _ _ _ _, ((MF.rf v).s0 _ (by omega)).s0 _ (by omega)⟩
          rw [RA_step hc2 (by omega), dg_t hd.1 hd.2, t_figN b2 (.inl rfl), bind_s, if_pos rfl]
        · rcases t_in (x := b s2) b2 (by omega) (by omega) (hc.2.2 s2 (by omega)).2 hd (a5 (by omega)) with ⟨hh, -⟩ | ⟨-, w3, c1, c2⟩
          · exact absurd ⟨by omega, by omega, by omega⟩ h59
          · refine ⟨s2, w3, _, a2, ?_, b3.tr c2, rfl, ws_same _ _ _ _, ((MF.rf v).s0 _ (by omega)).s0 _ (by omega)⟩
            rw [RA_step hc2 (by omega), c1, bind_s, if_pos rfl]
  | succ j ih =>
    intro k f w v N fig s it hc hm hj hf hs hN h24 h23 hp hnd
    obtain ⟨f, rfl⟩ : ∃ g, f = g + 1 := ⟨f - 1, by omega⟩
    have eM : f_X6_takesOrder_b53 (nI M) (f + 1) (nI k) v = (f_X6_takesNumber (nI (5 * ord + k)) v).bind (fun z12 => if z12.1 = 0 then (if zb 0 = true then some (0, z12.2) else none) else f_X6_takesOrder_b53 (nI M) f (nI (k + 1)) z12.2) := by
      rw [f_X6_takesOrder_b53, if_neg (fun q => by have := (c_le (by omega) (by omega)).mp q; omega), h23, a_lm, nI_add, a_al]
    rcases num_b (to := 5 * ord + k) hc hm hs hN (by omega) (by omega) h24 hp hnd with ⟨p, w1, v1, q1, q2, q3, q4, q5, q6⟩ | ⟨s1, x1, f1, w1, q1, q2, q3, q4, q5, q6, q7, q8⟩
    · left
      rw [eM, q4, bind_s, if_pos rfl]
      exact ⟨p, w1, v1, q1, q2, q3, rfl, q5, q6⟩
    · have hv1 : MF v (wset (wset v 0 24 (nI s1)) 12 (5 * ord + k) (nI x1)) := ((MF.rf v).s0 _ (by omega)).s11 _ _ (by omega)
      have e24 : (wset (wset v 0 24 (nI s1)) 12 (5 * ord + k) (nI x1)).1 0 24 = nI s1 := by rw [ws_c _ _ (by decide), ws_same]
      have e23 : (wset (wset v 0 24 (nI s1)) 12 (5 * ord + k) (nI x1)).1 0 23 = nI ord := by rw [ws_c _ _ (by decide), ws_k _ _ (by decide)]; exact h23
      rw [eM, q8, bind_s, if_neg one0, q3]
      dsimp only
      rcases ih (k + 1) f w1 _ (N + 1) f1 s1 (ins it N (nI x1)) (TC_CF hc q4) (TM_MF hm hv1) (by omega) (by omega) q2 (by omega) e24 e23 q5 (fun _ => q7) with ⟨p, w2, v2, r1, r2, r3, r4, r5, r6⟩ | ⟨s2, w2, v2, it2, r1, r2, r3, r4, r5, r6, r7, r8, r9, r10, r11, r12, r13, r14⟩
      · exact .inl ⟨p, w2, v2, r1, r2, q4.tr r3, r4, r5, hv1.tr r6⟩
      · refine .inr ⟨s2, w2, v2, it2, by omega, r2, r3, q4.tr r4, by rw [show N + (j + 1) = N + 1 + j by omega]; exact r5, by omega, r7, hv1.tr r8, r9, r10, ?_, fun i hi => ?_, fun i hi => ?_, fun q hq => ?_⟩
        · rw [r11, ws_c _ _ (by decide), ws_c _ _ (by decide)]
        · rw [r12 i (by omega), ins_n _ _ (by omega)]
        · by_cases hi0 : i = 0
          · subst hi0
            rw [Nat.add_zero, Nat.add_zero, r12 N (by omega), ins_s, r14 _ (by omega), ws_same]
          · have := r13 (i - 1) (by omega)
            rw [show N + 1 + (i - 1) = N + i by omega, show k + 1 + (i - 1) = k + i by omega] at this
            exact this
        · rw [r14 q (by omega), ws_k _ _ (by omega), ws_c _ _ (by decide)]
