/-! THE CLASS: search -/
def Kx (x1 : Int32) (k : Nat) : Bool := decide (¬ nI k = x1)
def wgS (r : Row) (c : Nat) (K : Nat → Bool) (d : Nat) : Nat := foldN (fun k s => if K k then (if s < gapN d (rsS r c k) (tn (r (2 + k))) (tn (r 5)) then gapN d (rsS r c k) (tn (r (2 + k))) (tn (r 5)) else s) else s) 3 0 0
theorem gapN_lt {d n z : Nat} {r : Int32} (hn : n ≤ 2000) : gapN d r n z ≤ 2000 := by
  unfold gapN
  split
  · omega
  · split <;> omega
/-- what the sight holds while a cell is reckoned: the residues -/
def resC (w : Wd) (c : Nat) : Prop := ∀ k, k < 3 → w.1 5 k = rsS (RC w 10) c k
theorem wg_bd {r : Row} (hv : VR r) {c d : Nat} (K : Nat → Bool) : wgS r c K d ≤ 2000 := by
  refine foldN_inv (fun _ s => s ≤ 2000) 3 0 0 (by omega) (fun i s h1 h2 h => ?_)
  have := gapN_lt (d := d) (z := tn (r 5)) (r := rsS r c i) (VR_w hv (k := i) (by omega)).2.2
  show (if K i then _ else _) ≤ 2000
  split
  · split
    · exact this
    · exact h
  · exact h
theorem c_wgap {w : Wd} {c d : Nat} {x1 : Int32} (hv : VR (RC w 10)) (hd : d ≤ 20000) (hres : resC w c) : f_X2_widestGap (nI d) x1 w = some (nI (wgS (RC w 10) c (Kx x1) d)) := by
  obtain ⟨h51, h52, h53⟩ := VR_5 hv
  have h12 : w.1 12 0 = RC w 10 5 := RC_s10 (k := 0) (by omega)
  have := (loopF (fun n (s : Nat) i => f_X2_widestGap_b5 (nI d) x1 w n (nI s) i) (fun k s => if Kx x1 k then (if s < gapN d (rsS (RC w 10) c k) (tn (RC w 10 (2 + k))) (tn (RC w 10 5)) then gapN d (rsS (RC w 10) c k) (tn (RC w 10 (2 + k))) (tn (RC w 10 5)) else s) else s) (fun s => some (nI s)) 3 (fun _ s => s ≤ 2000) (by omega)
    (fun m s _ => by
      show f_X2_widestGap_b5 (nI d) x1 w (m + 1) (nI s) (nI 3) = _
      rw [f_X2_widestGap_b5, if_pos (by decide)])
    (fun m j s hj hs => by
      obtain ⟨hw1, hw2, hw3⟩ := VR_w hv hj
      have hg := gapN_lt (d := d) (z := tn (RC w 10 5)) (r := rsS (RC w 10) c j) hw3
      refine ⟨?_, ?_⟩
      · split
        · split
          · exact hg
          · exact hs
        · exact hs
      · show f_X2_widestGap_b5 (nI d) x1 w (m + 1) (nI s) (nI j) = f_X2_widestGap_b5 (nI d) x1 w m (nI (if _ then _ else _)) (nI (j + 1))
        conv => lhs; rw [f_X2_widestGap_b5]
        rw [if_neg (fun q => by have := (c_lle (by omega) (by omega)).mp q; omega)]
        unfold f_X2_widestGap_b52
        simp only [a_al, jlet_eq]
        by_cases hx : nI j = x1
        · rw [if_pos hx, if_neg (by unfold Kx; simp [hx])]
        · rw [if_neg hx, if_pos (show Kx x1 j = true by unfold Kx; simp [hx]), if_pos (i_n (by omega) (by omega)), if_pos (i_n (by omega) (by omega)), if_pos (i_l (by omega) (by omega)), n_cl (by omega), n_cll (by omega), hres j hj, RC_w10 hj, h12]
          have e := c_gap (d := d) (n := tn (RC w 10 (2 + j))) (z := tn (RC w 10 5)) (r := rsS (RC w 10) c j) hd (by omega) hw3 h53 (rs_lt hv hj)
          rw [← hw1, ← h51] at e
          rw [e, bind_s]
          by_cases hlt : s < gapN d (rsS (RC w 10) c j) (tn (RC w 10 (2 + j))) (tn (RC w 10 5))
          · rw [if_pos ((c_lt (by omega) (by omega)).mpr hlt), if_pos hlt]
          · rw [if_neg (fun q => hlt ((c_lt (by omega) (by omega)).mp q)), if_neg hlt]) 0 (by omega)).1
  exact this
theorem c_mis {w : Wd} {c d : Nat} {x1 : Int32} (hv : VR (RC w 10)) (hd : d ≤ 20000) (hres : resC w c) : f_X2_misfit (nI d) x1 w = some (nI (misS (RC w 10) c (Kx x1) d)) := by
  have := (loopF (fun n (s : Nat) i => f_X2_misfit_b5 (nI d) x1 w n (nI s) i) (fun k s => if Kx x1 k then s + awS (RC w 10) c k d * awS (RC w 10) c k d else s) (fun s => some (nI s)) 3 (fun _ _ => True) (by omega)
    (fun m s _ => by
      show f_X2_misfit_b5 (nI d) x1 w (m + 1) (nI s) (nI 3) = _
      rw [f_X2_misfit_b5, if_pos (by decide)])
    (fun m j s hj _ => by
      obtain ⟨hw1, hw2, hw3⟩ := VR_w hv hj
      refine ⟨trivial, ?_⟩
      show f_X2_misfit_b5 (nI d) x1 w (m + 1) (nI s) (nI j) = f_X2_misfit_b5 (nI d) x1 w m (nI (if _ then _ else _)) (nI (j + 1))
      conv => lhs; rw [f_X2_misfit_b5]
      rw [if_neg (fun q => by have := (c_lle (by omega) (by omega)).mp q; omega)]
      unfold f_X2_misfit_b48
      simp only [a_al, jlet_eq]
      by_cases hx : nI j = x1
      · rw [if_pos hx, if_neg (by unfold Kx; simp [hx])]
      · rw [if_neg hx, if_pos (show Kx x1 j = true by unfold Kx; simp [hx]), if_pos (i_n (by omega) (by omega)), if_pos (i_n (by omega) (by omega)), n_cl (by omega), hres j hj, RC_w10 hj]
        have e := c_away (d := d) (n := tn (RC w 10 (2 + j))) (r := rsS (RC w 10) c j) hd (by omega) hw3 (rs_lt hv hj)
        rw [← hw1] at e
        rw [e, bind_s, pk_mul, nI_add]
        rfl) 0 trivial).1
  unfold f_X2_misfit
  refine (show f_X2_misfit_b5 (nI d) x1 w FUEL 0 0 = _ from this).trans ?_
  congr 2
  unfold misS
  show (if Kx x1 2 then _ else _) = _
  by_cases k0 : Kx x1 0 = true <;> by_cases k1 : Kx x1 1 = true <;> by_cases k2 : Kx x1 2 = true <;> simp [k0, k1, k2]
theorem wg_fit {r : Row} (hv : VR r) {c d : Nat} (K : Nat → Bool) : wgS r c K d = 0 ↔ fitS r c K d = true := by
  have g : ∀ k, k < 3 → (gapN d (rsS r c k) (tn (r (2 + k))) (tn (r 5)) = 0 ↔ awS r c k d ≤ tn (r 5)) := fun k hk => gap_fit (by have := VR_w hv hk; omega)
  have g0 := g 0 (by omega)
  have g1 := g 1 (by omega)
  have g2 := g 2 (by omega)
  unfold wgS fitS
  show (if K 2 then _ else _) = 0 ↔ _
  simp only [Bool.and_eq_true, Bool.or_eq_true, Bool.not_eq_true', decide_eq_true_eq]
  rw [← g0, ← g1, ← g2]
  generalize gapN d (rsS r c 0) (tn (r (2 + 0))) (tn (r 5)) = a0
  generalize gapN d (rsS r c 1) (tn (r (2 + 1))) (tn (r 5)) = a1
  generalize gapN d (rsS r c 2) (tn (r (2 + 2))) (tn (r 5)) = a2
  by_cases k0 : K 0 = true <;> by_cases k1 : K 1 = true <;> by_cases k2 : K 2 = true <;> simp [k0, k1, k2] <;> (repeat' split) <;> omega
theorem wg_none {r : Row} (hv : VR r) {c d j : Nat} (K : Nat → Bool) (hj : j < wgS r c K d) : fitS r c K (d + j) = false := by
  have g : ∀ k, k < 3 → j < gapN d (rsS r c k) (tn (r (2 + k))) (tn (r 5)) → ¬ awS r c k (d + j) ≤ tn (r 5) := fun k hk h => gap_none (by have := VR_w hv hk; omega) h
  have key := foldN_inv (f := fun k s => if K k then (if s < gapN d (rsS r c k) (tn (r (2 + k))) (tn (r 5)) then gapN d (rsS r c k) (tn (r (2 + k))) (tn (r 5)) else s) else s) (fun i s => j < s → ∃ k, k < i ∧ K k = true ∧ j < gapN d (rsS r c k) (tn (r (2 + k))) (tn (r 5))) 3 0 0 (fun h => by omega) (fun i s h1 h2 hI => by
    intro h
    by_cases hK : K i = true
    · rw [if_pos hK] at h
      by_cases hs : s < gapN d (rsS r c i) (tn (r (2 + i))) (tn (r 5))
      · rw [if_pos hs] at h
        exact ⟨i, by omega, hK, h⟩
      · rw [if_neg hs] at h
        obtain ⟨k, a, b⟩ := hI h
        exact ⟨k, by omega, b⟩
    · rw [if_neg hK] at h
      obtain ⟨k, a, b⟩ := hI h
      exact ⟨k, by omega, b⟩) hj
  obtain ⟨k, hk, hK, hg⟩ := key
  have hn := g k (by omega) hg
  unfold fitS
  rcases (show k = 0 ∨ k = 1 ∨ k = 2 by omega) with rfl | rfl | rfl
  · simp [hK, hn]
  · simp [hK, hn]
  · simp [hK, hn]
