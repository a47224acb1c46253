theorem c_pairs {w : Wd} {c : Nat} (hv : VR (RC w 10)) (hc : c < 32) (hres : resC w c) :
    ∃ v : Wd, f_X2_reckonPairs (nI c) w = some (nI (if omin (omin (bstS (RC w 10) c (Kno 2)) (bstS (RC w 10) c (Kno 1))) (bstS (RC w 10) c (Kno 0)) = none then 5 else 4), v) ∧ FrQ c w v ∧ v.1 2 = w.1 2 ∧ v.1 3 c = enc (omin (omin (bstS (RC w 10) c (Kno 2)) (bstS (RC w 10) c (Kno 1))) (bstS (RC w 10) c (Kno 0))) ∧ v.1 4 c = enc (omax (omax (bstS (RC w 10) c (Kno 2)) (bstS (RC w 10) c (Kno 1))) (bstS (RC w 10) c (Kno 0))) := by
  have bl : ∀ (K : Nat → Bool) n, bstS (RC w 10) c K = some n → n < 2 ^ 31 := fun K n h => bst_lt hv h
  have hF : ∀ o : Option Tup, VR (RC (wS w o) 10) ∧ resC (wS w o) c := fun o => ⟨by rw [wS_RC]; exact hv, by intro k hk; rw [wS_c _ _ (by decide), wS_RC]; exact hres k hk⟩
  unfold f_X2_reckonPairs
  rw [FUEL4]
  show ∃ v, f_X2_reckonPairs_b11 (nI c) (19996 + 1 + 1 + 1 + 1) (enc none) (enc none) (nI 0) w = _ ∧ _
  obtain ⟨o1, e1⟩ := c_pair1 hv hres (by omega : 0 < 3) (a := none) (b := none) (fun n h => by cases h) (fun n h => by cases h) (19996 + 1 + 1 + 1)
  rw [e1]
  have h1 : VR (RC (wS w o1) 10) ∧ resC (wS w o1) c := hF o1
  obtain ⟨o2, e2⟩ := c_pair1 h1.1 h1.2 (by omega : 1 < 3) (a := omin none (bstS (RC w 10) c (Kno 0))) (b := omax none (bstS (RC w 10) c (Kno 0))) (by rw [omin_none]; exact bl _) (by rw [omax_none]; exact bl _) (19996 + 1 + 1)
  rw [e2, wS_RC]
  have h2 : VR (RC (wS (wS w o1) o2) 10) ∧ resC (wS (wS w o1) o2) c := ⟨by rw [wS_RC, wS_RC]; exact hv, by intro k hk; rw [wS_c _ _ (by decide), wS_c _ _ (by decide), wS_RC, wS_RC]; exact hres k hk⟩
  obtain ⟨o3, e3⟩ := c_pair1 h2.1 h2.2 (by omega : 2 < 3) (a := omin (omin none (bstS (RC w 10) c (Kno 0))) (bstS (RC w 10) c (Kno 1))) (b := omax (omax none (bstS (RC w 10) c (Kno 0))) (bstS (RC w 10) c (Kno 1))) (omin_lt (by rw [omin_none]; exact bl _) (bl _)) (omax_lt (by rw [omax_none]; exact bl _) (bl _)) (19996 + 1)
  rw [e3, wS_RC, wS_RC, omin_perm, omax_perm]
  have hFr : FrQ c w (wS (wS (wS w o1) o2) o3) := (((FrQ.rf c w).S o1).S o2).S o3
  have h22 : (wS (wS (wS w o1) o2) o3).1 2 = w.1 2 := by rw [wS_c _ _ (by decide), wS_c _ _ (by decide), wS_c _ _ (by decide)]
  generalize wS (wS (wS w o1) o2) o3 = u at hFr h22 ⊢
  generalize hN : omin (omin (bstS (RC w 10) c (Kno 2)) (bstS (RC w 10) c (Kno 1))) (bstS (RC w 10) c (Kno 0)) = N
  generalize omax (omax (bstS (RC w 10) c (Kno 2)) (bstS (RC w 10) c (Kno 1))) (bstS (RC w 10) c (Kno 0)) = B
  have hNl : ∀ n, N = some n → n < 2 ^ 31 := by rw [← hN]; exact omin_lt (omin_lt (bl _) (bl _)) (bl _)
  rw [f_X2_reckonPairs_b11, if_pos (by decide), if_pos (i_n (by omega) (by omega)), wput_eq, if_pos (i_n (by omega) (by omega)), wput_eq, n_cl (by omega)]
  unfold f_X2_reckonPairs_b90
  have F2 : FrQ c w (wset (wset u 3 c (enc N)) 4 c (enc B)) := (hFr.s3 _).s4 _
  have g2 : (wset (wset u 3 c (enc N)) 4 c (enc B)).1 2 = w.1 2 := by rw [ws_c _ _ (by decide), ws_c _ _ (by decide)]; exact h22
  by_cases q : N = none
  · rw [if_pos ((enc_eq hNl).mpr q), if_pos q]
    exact ⟨_, rfl, F2, g2, by rw [ws_c _ _ (by decide), ws_same], ws_same ..⟩
  · rw [if_neg (fun z => q ((enc_eq hNl).mp z)), if_neg q]
    exact ⟨_, rfl, F2, g2, by rw [ws_c _ _ (by decide), ws_same], ws_same ..⟩
theorem c_reckon {w : Wd} {c : Nat} (hv : VR (RC w 10)) (hc : c < 32) :
    ∃ (v : Wd) (m : Nat), f_X2_reckon (nI c) w = some (nI m, v) ∧ FrQ c w v ∧ v.1 2 = w.1 2 ∧ ((¬ m = 5 ∧ m ≤ 4 ∧ m = (lkS (RC w 10) c).1 ∧ ¬ m = 4 ∧ (m = 0 → v.1 3 c = enc (lkS (RC w 10) c).2.1)) ∨ (m = 5 ∧ resC v c ∧ brS (RC w 10) c = false ∧ dkS (RC w 10) c = false ∧ scS (RC w 10) c Kall = none)) := by
  have h7 : w.1 12 2 = RC w 10 7 := RC_s10 (k := 2) (by omega)
  obtain ⟨h51, h52, h53⟩ := VR_5 hv
  unfold f_X2_reckon
  rw [if_pos (i_l (by omega) (by omega)), n_cll (by omega), h7, c_count hc, bind_s]
  have hcl : cntS (RC w 10) c (RC w 10 7) < 2 ^ 31 := by
    have : cntS (RC w 10) c (RC w 10 7) ≤ 0 + 12 := by
      refine foldN_inv (fun i s => s ≤ i) 12 0 0 (Nat.le_refl _) (fun i s _ _ h => ?_)
      show s + (if _ then 0 else 1) ≤ i + 1
      split <;> omega
    omega
  unfold lkS
  by_cases hb : brS (RC w 10) c = true
  · have hb' := of_decide_eq_true (hb : decide _ = true)
    rw [if_neg (fun q => by have := (c_le0 hcl).mp q; omega), if_pos hb]
    exact ⟨w, 1, rfl, FrQ.rf c w, rfl, Or.inl ⟨by decide, by decide, rfl, by decide, fun q => absurd q (by decide)⟩⟩
  · have hb' : ¬ 0 < cntS (RC w 10) c (RC w 10 7) := fun q => hb (decide_eq_true q)
    rw [if_pos ((c_le0 hcl).mpr (by omega)), if_neg hb, FUEL4]
    show ∃ v m, f_X2_reckon_b24 (nI c) (19996 + 1 + 1 + 1 + 1) (nI 0) w = _ ∧ _
    rw [c_reck1 hv hc (by omega)]
    have hd2 : ∀ {v : Wd}, FrQ c w v → v.1 2 = w.1 2 → dkS (RC w 10) c = true → ∃ (v' : Wd) (m : Nat), (some ((2 : Int32), v) : Option (Int32 × Wd)) = some (nI m, v') ∧ FrQ c w v' ∧ v'.1 2 = w.1 2 ∧ ((¬ m = 5 ∧ m ≤ 4 ∧ m = (if dkS (RC w 10) c = true then ((2, none, none, none) : Nat × Option Nat × Option Nat × Option Nat) else match scS (RC w 10) c Kall with
          | some (b, _, f, l) => if b - f ≤ 2 * tn (RC w 10 5) ∧ l - b ≤ 2 * tn (RC w 10 5) then (0, some b, none, none) else (3, none, none, none)
          | none => (if omin (omin (bstS (RC w 10) c (Kno 2)) (bstS (RC w 10) c (Kno 1))) (bstS (RC w 10) c (Kno 0)) = none then 5 else 4, none, omin (omin (bstS (RC w 10) c (Kno 2)) (bstS (RC w 10) c (Kno 1))) (bstS (RC w 10) c (Kno 0)), omax (omax (bstS (RC w 10) c (Kno 2)) (bstS (RC w 10) c (Kno 1))) (bstS (RC w 10) c (Kno 0)))).1 ∧ ¬ m = 4 ∧ (m = 0 → v'.1 3 c = enc (if dkS (RC w 10) c = true then ((2, none, none, none) : Nat × Option Nat × Option Nat × Option Nat) else match scS (RC w 10) c Kall with
          | some (b, _, f, l) => if b - f ≤ 2 * tn (RC w 10 5) ∧ l - b ≤ 2 * tn (RC w 10 5) then (0, some b, none, none) else (3, none, none, none)
          | none => (if omin (omin (bstS (RC w 10) c (Kno 2)) (bstS (RC w 10) c (Kno 1))) (bstS (RC w 10) c (Kno 0)) = none then 5 else 4, none, omin (omin (bstS (RC w 10) c (Kno 2)) (bstS (RC w 10) c (Kno 1))) (bstS (RC w 10) c (Kno 0)), omax (omax (bstS (RC w 10) c (Kno 2)) (bstS (RC w 10) c (Kno 1))) (bstS (RC w 10) c (Kno 0)))).2.1)) ∨ (m = 5 ∧ resC v' c ∧ brS (RC w 10) c = false ∧ dkS (RC w 10) c = false ∧ scS (RC w 10) c Kall = none)) := by
      intro v hF h2 hd
      rw [if_pos hd]
      exact ⟨v, 2, rfl, hF, h2, Or.inl ⟨by decide, by decide, rfl, by decide, fun q => absurd q (by decide)⟩⟩
    by_cases d0 : dk1 (RC w 10) c 0 = true
    · rw [if_pos d0]
      exact hd2 ((FrQ.rf c w).s5 _ _) (ws_c _ _ (by decide)) (by unfold dkS; rw [d0]; rfl)
    · rw [if_neg d0, c_reck1 (by rw [RC_wset5]; exact hv) hc (by omega)]
      simp only [RC_wset5]
      by_cases d1 : dk1 (RC w 10) c 1 = true
      · rw [if_pos d1]
        exact hd2 (((FrQ.rf c w).s5 _ _).s5 _ _) (by rw [ws_c _ _ (by decide), ws_c _ _ (by decide)]) (by unfold dkS; rw [d1]; simp)
      · rw [if_neg d1, c_reck1 (by rw [RC_wset5, RC_wset5]; exact hv) hc (by omega)]
        simp only [RC_wset5]
        by_cases d2 : dk1 (RC w 10) c 2 = true
        · rw [if_pos d2]
          exact hd2 ((((FrQ.rf c w).s5 _ _).s5 _ _).s5 _ _) (by rw [ws_c _ _ (by decide), ws_c _ _ (by decide), ws_c _ _ (by decide)]) (by unfold dkS; rw [d2]; simp)
        · have hdk : dkS (RC w 10) c = false := by unfold dkS; simp [d0, d1, d2]
          rw [if_neg d2, if_neg (by rw [hdk]; decide)]
          obtain ⟨u, hu⟩ : ∃ u, u = wset (wset (wset w 5 0 (rsS (RC w 10) c 0)) 5 (0 + 1) (rsS (RC w 10) c (0 + 1))) 5 (0 + 1 + 1) (rsS (RC w 10) c (0 + 1 + 1)) := ⟨_, rfl⟩
          have hFu : FrQ c w u := by rw [hu]; exact (((FrQ.rf c w).s5 _ _).s5 _ _).s5 _ _
          have h2u : u.1 2 = w.1 2 := by rw [hu, ws_c _ _ (by decide), ws_c _ _ (by decide), ws_c _ _ (by decide)]
          have hRu := FrQ_RC hFu
          have hresu : resC u c := by
            intro k hk
            rw [hRu, hu]
            rcases (show k = 0 ∨ k = 1 ∨ k = 2 by omega) with rfl | rfl | rfl
            · rw [ws_k _ _ (by decide), ws_k _ _ (by decide), ws_same]
            · rw [ws_k _ _ (by decide), ws_same]
            · rw [ws_same]
          rw [← hu, f_X2_reckon_b24, if_pos (by decide)]
          obtain ⟨o, e, hA, -, hbd⟩ := c_search (x1 := -1) (by rw [hRu]; exact hv) hresu
          have hA := hA rfl
          rw [scS_congr Kx_m1, hRu] at hA
          rw [e, bind_s]
          cases o with
          | none =>
            rw [if_pos (show fnd none = 0 from rfl)]
            have hsc : scS (RC w 10) c Kall = none := by
              cases hs : scS (RC w 10) c Kall with
              | none => rfl
              | some t => rw [hs] at hA; exact hA.elim
            exact ⟨_, 5, rfl, hFu.S none, by rw [wS_c _ _ (by decide)]; exact h2u, Or.inr ⟨rfl, by intro k hk; rw [wS_c _ _ (by decide), wS_RC]; exact hresu k hk, by simpa using hb, hdk, hsc⟩⟩
          | some t =>
            obtain ⟨b, m, f, l⟩ := t
            have ok := hbd b m f l rfl
            rw [if_neg (show ¬ fnd (some (b, m, f, l)) = 0 from (by decide : ¬ (1 : Int32) = 0)), if_pos (i_n (by omega) (by omega)), wput_eq, if_pos (i_l (by omega) (by omega)), n_cl (by omega), n_cll (by omega)]
            have e7 : (wS u (some (b, m, f, l))).1 1 7 = nI b := by unfold wS; simp only; rw [ws_same]
            have e6 : (wS u (some (b, m, f, l))).1 1 6 = nI l := by unfold wS; simp only; rw [ws_k _ _ (by decide), ws_same]
            have e5 : (wS u (some (b, m, f, l))).1 1 5 = nI f := wS_5 ..
            have e12 : (wset (wS u (some (b, m, f, l))) 3 c (nI b)).1 12 0 = RC w 10 5 := by rw [ws_c _ _ (by decide), wS_c _ _ (by decide), hFu.1 12 (by omega)]; exact RC_s10 (k := 0) (by omega)
            rw [e7, e12, h51, a_lm, jlet_eq, ws_c (c := 3) (c' := 1) _ _ (by decide), e7, e6, e5, pk_sub ok.1, pk_sub ok.2.1, tn_n (by omega)]
            unfold f_X2_reckon_b169 f_X2_reckon_b174
            have hFv : FrQ c w (wset (wS u (some (b, m, f, l))) 3 c (nI b)) := (hFu.S _).s3 _
            have h2v : (wset (wS u (some (b, m, f, l))) 3 c (nI b)).1 2 = w.1 2 := by rw [ws_c _ _ (by decide), wS_c _ _ (by decide)]; exact h2u
            cases hs : scS (RC w 10) c Kall with
            | none => rw [hs] at hA; exact hA.elim
            | some t =>
              obtain ⟨b', m', f', l'⟩ := t
              rw [hs] at hA
              obtain ⟨-, -, -, hiff, hbeq⟩ := hA
              simp only
              by_cases q : b - f ≤ 2 * tn (RC w 10 5) ∧ l - b ≤ 2 * tn (RC w 10 5)
              · rw [if_neg (fun z => by have := (c_lt (by omega) (by omega)).mp z; omega), if_pos ((c_le (by omega) (by omega)).mpr q.2), if_pos (hiff.mp q)]
                exact ⟨_, 0, rfl, hFv, h2v, Or.inl ⟨by decide, by decide, rfl, by decide, fun _ => by rw [ws_same, hbeq q]; rfl⟩⟩
              · rw [if_neg (fun z => q (hiff.mpr z))]
                by_cases q1 : 2 * tn (RC w 10 5) < b - f
                · rw [if_pos ((c_lt (by omega) (by omega)).mpr q1)]
                  exact ⟨_, 3, rfl, hFv, h2v, Or.inl ⟨by decide, by decide, rfl, by decide, fun z => absurd z (by decide)⟩⟩
                · rw [if_neg (fun z => q1 ((c_lt (by omega) (by omega)).mp z)), if_neg (fun z => by have := (c_le (by omega) (by omega)).mp z; omega)]
                  exact ⟨_, 3, rfl, hFv, h2v, Or.inl ⟨by decide, by decide, rfl, by decide, fun z => absurd z (by decide)⟩⟩
