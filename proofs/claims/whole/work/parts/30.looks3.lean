theorem m_res1 {v : Wd} {c k : Nat} (hv : VR (RM v)) (hc : c < 32) (hk : k < 3) (n : Nat) : f_X6_looksAt_b51 (nI (pos c)) (n + 1) (nI k) v = f_X6_looksAt_b51 (nI (pos c)) n (nI (k + 1)) (wset v 6 k (rsS (RM v) c k)) := by
  obtain ⟨h1, h2, h3⟩ := VR_w hv hk
  conv => lhs; rw [f_X6_looksAt_b51]
  rw [if_neg (fun q => by have := (c_lle (by omega) (by omega)).mp q; omega)]
  simp only [a_lm, a_la, nI_add, a_al]
  rw [if_pos (i_n (by omega) (by omega)), n_cl (by omega), RM_at (by omega), m_Res (by unfold pos; omega) (by rw [h1]; exact fun q => by have := (c_eql (by omega) (by omega)).mp q; omega), bind_s, if_pos (i_n (by omega) (by omega)), n_cl (by omega), wput_eq]
  rfl
theorem bst_lt {r : Row} (hv : VR r) {c : Nat} {K : Nat → Bool} {n : Nat} (h : bstS r c K = some n) : n < 2 ^ 31 := by
  obtain ⟨h1, h2, h3⟩ := VR_8 hv
  unfold bstS scS at h
  obtain ⟨⟨b, m, f, l⟩, e1, e2⟩ := Option.map_eq_some_iff.mp h
  have := scan_ok _ e1
  simp only at e2
  omega
theorem omin_lt {a b : Option Nat} {N : Nat} (ha : ∀ n, a = some n → n < N) (hb : ∀ n, b = some n → n < N) : ∀ n, omin a b = some n → n < N := by
  intro n h
  cases a <;> cases b <;> simp only [omin, Option.some.injEq, reduceCtorEq] at h
  · subst h; exact hb _ rfl
  · subst h; exact ha _ rfl
  · have h1 := ha _ rfl
    have h2 := hb _ rfl
    subst h
    split <;> assumption
theorem omax_lt {a b : Option Nat} {N : Nat} (ha : ∀ n, a = some n → n < N) (hb : ∀ n, b = some n → n < N) : ∀ n, omax a b = some n → n < N := by
  intro n h
  cases a <;> cases b <;> simp only [omax, Option.some.injEq, reduceCtorEq] at h
  · subst h; exact hb _ rfl
  · subst h; exact ha _ rfl
  · have h1 := ha _ rfl
    have h2 := hb _ rfl
    subst h
    split <;> assumption
theorem omin_none (d : Option Nat) : omin none d = d := by cases d <;> rfl
theorem omax_none (d : Option Nat) : omax none d = d := by cases d <;> rfl
/-- what looksAt leaves: mark, distance, near, beyond -/
def lkAt (v : Wd) (q : Nat × Option Nat × Option Nat × Option Nat) : Prop := v.1 0 7 = nI q.1 ∧ v.1 0 8 = enc q.2.1 ∧ v.1 0 9 = enc q.2.2.1 ∧ v.1 0 10 = enc q.2.2.2
theorem m_looks {w : Wd} {c : Nat} (hv : VR (RM w)) (hc : c < 32) : ∃ v : Wd, f_X6_looksAt (nI (pos c)) w = some v ∧ FrL w v ∧ lkAt v (lkS (RM w) c) := by
  unfold f_X6_looksAt
  simp only [wput_eq]
  obtain ⟨w3, hw3⟩ : ∃ w3, w3 = wset (wset (wset w 0 8 (-10001)) 0 9 (-10001)) 0 10 (-10001) := ⟨_, rfl⟩
  have hF3 : FrL w w3 := by rw [hw3]; exact (((FrL.rf w).s0 _ (by omega) (by omega)).s0 _ (by omega) (by omega)).s0 _ (by omega) (by omega)
  have h8 : w3.1 0 8 = enc none := by rw [hw3, ws_k _ _ (by decide), ws_k _ _ (by decide), ws_same]; rfl
  have h9 : w3.1 0 9 = enc none := by rw [hw3, ws_k _ _ (by decide), ws_same]; rfl
  have h10 : w3.1 0 10 = enc none := by rw [hw3, ws_same]; rfl
  rw [← hw3, m_bright hc, bind_s, m_dark hc, bind_s, FrL_RM hF3]
  unfold lkS
  by_cases hb : brS (RM w) c = true
  · rw [if_pos hb, if_neg (by decide), if_pos hb]
    exact ⟨_, rfl, hF3.s0 _ (by omega) (by omega), ws_same .., by rw [ws_k _ _ (by decide)]; exact h8, by rw [ws_k _ _ (by decide)]; exact h9, by rw [ws_k _ _ (by decide)]; exact h10⟩
  · rw [if_neg hb, if_pos rfl, if_neg hb]
    by_cases hd : dkS (RM w) c = true
    · rw [if_pos hd, if_neg (by decide), if_pos hd]
      exact ⟨_, rfl, hF3.s0 _ (by omega) (by omega), ws_same .., by rw [ws_k _ _ (by decide)]; exact h8, by rw [ws_k _ _ (by decide)]; exact h9, by rw [ws_k _ _ (by decide)]; exact h10⟩
    · rw [if_neg hd, if_pos rfl, if_neg hd]
      have hR3 := FrL_RM hF3
      rw [FUEL4]
      show ∃ v, f_X6_looksAt_b51 (nI (pos c)) _ (nI 0) w3 = some v ∧ _
      rw [m_res1 (by rw [hR3]; exact hv) hc (by omega), m_res1 (by rw [RM_wset6, hR3]; exact hv) hc (by omega), m_res1 (by rw [RM_wset6, RM_wset6, hR3]; exact hv) hc (by omega)]
      simp only [RM_wset6, hR3]
      obtain ⟨v3, hv3⟩ : ∃ v3, v3 = wset (wset (wset w3 6 0 (rsS (RM w) c 0)) 6 1 (rsS (RM w) c 1)) 6 2 (rsS (RM w) c 2) := ⟨_, rfl⟩
      have hF : FrL w v3 := by rw [hv3]; exact ((hF3.s6 _ _).s6 _ _).s6 _ _
      have hRM := FrL_RM hF
      have hres : ∀ k, k < 3 → v3.1 6 k = rsS (RM v3) c k := by
        intro k hk
        rw [hRM, hv3]
        rcases (show k = 0 ∨ k = 1 ∨ k = 2 by omega) with rfl | rfl | rfl
        · rw [ws_k _ _ (by decide), ws_k _ _ (by decide), ws_same]
        · rw [ws_k _ _ (by decide), ws_same]
        · rw [ws_same]
      have g8 : v3.1 0 8 = enc none := by rw [hv3, ws_c _ _ (by decide), ws_c _ _ (by decide), ws_c _ _ (by decide)]; exact h8
      have g9 : v3.1 0 9 = enc none := by rw [hv3, ws_c _ _ (by decide), ws_c _ _ (by decide), ws_c _ _ (by decide)]; exact h9
      have g10 : v3.1 0 10 = enc none := by rw [hv3, ws_c _ _ (by decide), ws_c _ _ (by decide), ws_c _ _ (by decide)]; exact h10
      rw [← hv3, f_X6_looksAt_b51, if_pos (show (3 : Int32) ≤ nI (0 + 1 + 1 + 1) by decide)]
      have hvv : VR (RM v3) := by rw [hRM]; exact hv
      rw [m_best hvv hres 7, bind_s, hRM, scS_congr K7]
      obtain ⟨h51, h52, h53⟩ := VR_5 hv
      obtain ⟨h81, h82, h83⟩ := VR_8 hv
      cases hs : scS (RM w) c Kall with
      | some t =>
        obtain ⟨b, m, f, l⟩ := t
        have ok := scan_ok _ (hs : scan _ _ _ = _)
        simp only
        rw [if_neg (show ¬ enc (Option.map (fun t : Nat × Nat × Nat × Nat => t.1) (some (b, m, f, l))) = -10001 from enc_none (n := b) (by omega)), if_pos (i_l (by omega) (by omega)), n_cll (by omega), RM_at (by omega), RM_wB, hRM, h51, a_lm, wB_12, wB_13, jlet_eq]
        show ∃ v, (if nI (2 * tn (RM w 5)) < nI b - nI f then _ else if nI (2 * tn (RM w 5)) < nI l - nI b then _ else _) = some v ∧ _
        rw [pk_sub ok.1, pk_sub ok.2.1, tn_n (by omega)]
        unfold f_X6_looksAt_b133 f_X6_looksAt_b134 f_X6_looksAt_b152
        simp only [wput_eq, ws_same]
        have hFB := hF.B (some (b, m, f, l))
        have k9 : (wB v3 (some (b, m, f, l))).1 0 9 = enc none := by unfold wB; rw [ws_k _ _ (by decide), ws_k _ _ (by decide)]; exact g9
        have k10 : (wB v3 (some (b, m, f, l))).1 0 10 = enc none := by unfold wB; rw [ws_k _ _ (by decide), ws_k _ _ (by decide)]; exact g10
        by_cases q1 : 2 * tn (RM w 5) < b - f
        · rw [if_pos ((c_lt (by omega) (by omega)).mpr q1), if_neg (show ¬ (3 : Int32) = 0 by decide), if_neg (by omega)]
          exact ⟨_, rfl, (hFB.s0 _ (by omega) (by omega)).s0 _ (by omega) (by omega), by rw [ws_k _ _ (by decide), ws_same]; rfl, ws_same .., by rw [ws_k _ _ (by decide), ws_k _ _ (by decide)]; exact k9, by rw [ws_k _ _ (by decide), ws_k _ _ (by decide)]; exact k10⟩
        · rw [if_neg (fun z => q1 ((c_lt (by omega) (by omega)).mp z))]
          by_cases q2 : 2 * tn (RM w 5) < l - b
          · rw [if_pos ((c_lt (by omega) (by omega)).mpr q2), if_neg (show ¬ (3 : Int32) = 0 by decide), if_neg (by omega)]
            exact ⟨_, rfl, (hFB.s0 _ (by omega) (by omega)).s0 _ (by omega) (by omega), by rw [ws_k _ _ (by decide), ws_same]; rfl, ws_same .., by rw [ws_k _ _ (by decide), ws_k _ _ (by decide)]; exact k9, by rw [ws_k _ _ (by decide), ws_k _ _ (by decide)]; exact k10⟩
          · rw [if_neg (fun z => q2 ((c_lt (by omega) (by omega)).mp z)), if_pos trivial, if_pos (by omega)]
            exact ⟨_, rfl, (hFB.s0 _ (by omega) (by omega)).s0 _ (by omega) (by omega), by rw [ws_k _ _ (by decide), ws_same]; rfl, ws_same .., by rw [ws_k _ _ (by decide), ws_k _ _ (by decide)]; exact k9, by rw [ws_k _ _ (by decide), ws_k _ _ (by decide)]; exact k10⟩
      | none =>
        simp only
        rw [if_pos (show enc (Option.map (fun t : Nat × Nat × Nat × Nat => t.1) none) = -10001 from rfl)]
        have bl : ∀ (K : Nat → Bool) n, bstS (RM w) c K = some n → n < 2 ^ 31 := fun K n h => bst_lt hv h
        have step : ∀ (u : Wd) (mask : Int32) (K : Nat → Bool) (a b : Option Nat), FrL w u → (∀ k, k < 3 → u.1 6 k = rsS (RM u) c k) → (∀ k, k < 3 → Kma mask k = K k) → u.1 0 8 = enc none → u.1 0 9 = enc a → u.1 0 10 = enc b → (∀ n, a = some n → n < 2 ^ 31) → (∀ n, b = some n → n < 2 ^ 31) →
            ∃ u', (f_X6_bestOf mask u).bind (fun z => f_X6_widens z.1 z.2) = some u' ∧ FrL w u' ∧ (∀ k, k < 3 → u'.1 6 k = rsS (RM u') c k) ∧ u'.1 0 8 = enc none ∧ u'.1 0 9 = enc (omin a (bstS (RM w) c K)) ∧ u'.1 0 10 = enc (omax b (bstS (RM w) c K)) := by
          intro u mask K a b hFu hru hK q8 q9 q10 la lb
          have hRu := FrL_RM hFu
          rw [m_best (by rw [hRu]; exact hv) hru mask, bind_s, hRu, scS_congr hK]
          show ∃ u', f_X6_widens (enc (bstS (RM w) c K)) (wB u (scS (RM w) c K)) = some u' ∧ _
          rw [m_widens (a := a) (b := b) (by unfold wB; rw [ws_k _ _ (by decide), ws_k _ _ (by decide)]; exact q9) (by unfold wB; rw [ws_k _ _ (by decide), ws_k _ _ (by decide)]; exact q10) la lb (bl K)]
          refine ⟨_, rfl, ((hFu.B _).s0 _ (by omega) (by omega)).s0 _ (by omega) (by omega), ?_, ?_, ?_, ws_same ..⟩
          · intro k hk
            rw [RM_wset0, RM_wset0, RM_wB, ws_c _ _ (by decide), ws_c _ _ (by decide), wB_6]
            exact hru k hk
          · rw [ws_k _ _ (by decide), ws_k _ _ (by decide)]
            unfold wB
            rw [ws_k _ _ (by decide), ws_k _ _ (by decide)]
            exact q8
          · rw [ws_k _ _ (by decide), ws_same]
        obtain ⟨u1, e1, F1, r1, a1, b1, c1⟩ := step (wB v3 none) 3 (Kno 2) none none (hF.B _) (by intro k hk; rw [RM_wB, wB_6]; exact hres k hk) K3 (by unfold wB; rw [ws_k _ _ (by decide), ws_k _ _ (by decide)]; exact g8) (by unfold wB; rw [ws_k _ _ (by decide), ws_k _ _ (by decide)]; exact g9) (by unfold wB; rw [ws_k _ _ (by decide), ws_k _ _ (by decide)]; exact g10) (fun n h => by cases h) (fun n h => by cases h)
        rw [omin_none] at b1
        rw [omax_none] at c1
        obtain ⟨u2, e2, F2, r2, a2, b2, c2⟩ := step u1 5 (Kno 1) _ _ F1 r1 K5 a1 b1 c1 (bl _) (bl _)
        obtain ⟨u3, e3, F3, r3, a3, b3, c3⟩ := step u2 6 (Kno 0) _ _ F2 r2 K6 a2 b2 c2 (omin_lt (bl _) (bl _)) (omax_lt (bl _) (bl _))
        have bb : ∀ (o : Option (Int32 × Wd)) (K : Wd → Option Wd), (o.bind (fun z => (f_X6_widens z.1 z.2).bind K)) = (o.bind (fun z => f_X6_widens z.1 z.2)).bind K := fun o K => by cases o <;> rfl
        rw [bb, e1, bind_s, bb, e2, bind_s, bb, e3, bind_s, b3]
        unfold f_X6_looksAt_b200
        simp only [wput_eq]
        by_cases q : omin (omin (bstS (RM w) c (Kno 2)) (bstS (RM w) c (Kno 1))) (bstS (RM w) c (Kno 0)) = none
        · rw [if_pos ((enc_eq (omin_lt (omin_lt (bl _) (bl _)) (bl _))).mpr q), if_pos q]
          exact ⟨_, rfl, F3.s0 _ (by omega) (by omega), ws_same .., by rw [ws_k _ _ (by decide)]; exact a3, by rw [ws_k _ _ (by decide)]; exact b3, by rw [ws_k _ _ (by decide)]; exact c3⟩
        · rw [if_neg (fun z => q ((enc_eq (omin_lt (omin_lt (bl _) (bl _)) (bl _))).mp z)), if_neg q]
          exact ⟨_, rfl, F3.s0 _ (by omega) (by omega), ws_same .., by rw [ws_k _ _ (by decide)]; exact a3, by rw [ws_k _ _ (by decide)]; exact b3, by rw [ws_k _ _ (by decide)]; exact c3⟩
