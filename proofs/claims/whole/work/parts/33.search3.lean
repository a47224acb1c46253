theorem c_eq0 {a : Nat} (h : a < 2 ^ 31) : (nI a = 0) ↔ a = 0 := nI_eq (b := 0) h (by omega)
theorem c_le0 {a : Nat} (h : a < 2 ^ 31) : (nI a ≤ 0) ↔ a ≤ 0 := nI_leI (b := 0) h (by omega)
theorem c_lt0 {a : Nat} (h : a < 2 ^ 31) : (0 < nI a) ↔ 0 < a := nI_ltI (a := 0) (by omega) h
theorem RelA_rf {z : Nat} {o : Option Tup} (h : ∀ b m f l, o = some (b, m, f, l) → f ≤ b ∧ b ≤ l ∧ l ≤ 9999) : RelA z o o := by
  cases o with
  | none => exact trivial
  | some t =>
    obtain ⟨b, m, f, l⟩ := t
    have := h b m f l rfl
    exact ⟨this.1, this.2.1, this.2.2, Iff.rfl, fun _ => rfl⟩
/-- the search from a distance on, what is below it known -/
theorem c_loop {w : Wd} {c : Nat} {x1 : Int32} (hv : VR (RC w 10)) (hres : resC w c) (hx : x1 = -1 ∨ ¬ x1 = -1) :
    ∀ (n d : Nat) (o : Option Tup), o = scan (fitS (RC w 10) c (Kx x1)) (misS (RC w 10) c (Kx x1)) (min d (tn (RC w 10 8) + 1)) → d ≤ 12100 → 12100 < d + n →
      ∃ o' : Option Tup, f_X2_search_b25 x1 (nI (4 * tn (RC w 10 5))) n (lmC o) (nI d) (wS w o) = some (fnd o', wS w o') ∧ (x1 = -1 → RelA (tn (RC w 10 5)) o' (scS (RC w 10) c (Kx x1))) ∧ (¬ x1 = -1 → RelB o' (scS (RC w 10) c (Kx x1))) ∧ (∀ b m f l, o' = some (b, m, f, l) → f ≤ b ∧ b ≤ l ∧ l ≤ 9999) := by
  obtain ⟨h81, h82, h83⟩ := VR_8 hv
  obtain ⟨h51, h52, h53⟩ := VR_5 hv
  intro n
  induction n with
  | zero =>
    intro d o ho hd hn
    exact absurd hn (by omega)
  | succ n ih =>
    intro d o ho hd hn
    have hresS : resC (wS w o) c := by intro k hk; rw [wS_c _ _ (by decide), wS_RC]; exact hres k hk
    have hvS : VR (RC (wS w o) 10) := by rw [wS_RC]; exact hv
    have h12 : (wS w o).1 12 3 = RC w 10 8 := by rw [wS_c _ _ (by decide)]; exact RC_s10 (k := 3) (by omega)
    have hbd : ∀ (k : Nat) (u : Option Tup), u = scan (fitS (RC w 10) c (Kx x1)) (misS (RC w 10) c (Kx x1)) k → k ≤ tn (RC w 10 8) + 1 → ∀ b m f l, u = some (b, m, f, l) → f ≤ b ∧ b ≤ l ∧ l ≤ 9999 := by
      intro k u hu hk b m f l e
      have := scan_ok k (hu.symm.trans e)
      omega
    by_cases hfar : d ≤ tn (RC w 10 8)
    · rw [Nat.min_eq_left (by omega)] at ho
      by_cases hf : fitS (RC w 10) c (Kx x1) d = true
      · rw [c_fit hv (by omega) hres ho hf hfar]
        have ho1 : scan (fitS (RC w 10) c (Kx x1)) (misS (RC w 10) c (Kx x1)) (d + 1) = stB (fitS (RC w 10) c (Kx x1)) (misS (RC w 10) c (Kx x1)) d o := by rw [scan_step, ← ho]
        cases hst : stB (fitS (RC w 10) c (Kx x1)) (misS (RC w 10) c (Kx x1)) d o with
        | none =>
          exfalso
          unfold stB at hst
          rw [if_pos hf] at hst
          cases o with
          | none => cases hst
          | some t =>
            obtain ⟨b, m, f, l⟩ := t
            simp only at hst
            split at hst <;> cases hst
        | some t =>
          obtain ⟨b, m, f, l⟩ := t
          rw [hst] at ho1
          have ok := scan_ok _ ho1
          have ihd := ih (d + 1) (some (b, m, f, l)) (by rw [Nat.min_eq_left (by omega), ho1]) (by omega) (by omega)
          simp only
          rw [pk_sub (by omega)]
          obtain ⟨b', m', l', full, hl', hb'⟩ := scan_mono ho1 (tn (RC w 10 8) - d)
          rw [show d + 1 + (tn (RC w 10 8) - d) = tn (RC w 10 8) + 1 by omega] at full
          have okf := scan_ok _ full
          have hfull : scS (RC w 10) c (Kx x1) = some (b', m', f, l') := full
          have he := c_end (w := w) (o := some (b, m, f, l)) (fun b1 m1 f1 l1 e => by cases e; omega)
          by_cases hm1 : x1 = -1
          · rw [if_pos hm1]
            by_cases hw : l - f ≤ 4 * tn (RC w 10 5)
            · rw [if_pos ((c_le (by omega) (by omega)).mpr hw)]
              exact ihd
            · rw [if_neg (fun q => hw ((c_le (by omega) (by omega)).mp q)), he]
              refine ⟨_, rfl, fun _ => ?_, fun q => absurd hm1 q, fun b1 m1 f1 l1 e => by cases e; omega⟩
              rw [hfull]
              exact ⟨by omega, by omega, by omega, by omega, fun q => by omega⟩
          · rw [if_neg hm1]
            have hm31 : m < 2 ^ 31 := by rw [ok.2.2.2]; exact misS_lt hv (Kx x1)
            by_cases hm0 : m = 0
            · rw [if_pos ((c_eq0 hm31).mpr hm0), he]
              refine ⟨_, rfl, fun q => absurd q hm1, fun _ => ?_, fun b1 m1 f1 l1 e => by cases e; omega⟩
              rw [hfull]
              show some b = some b'
              rw [hb' hm0]
            · rw [if_neg (fun q => hm0 ((c_eq0 hm31).mp q))]
              exact ihd
      · have hg0 : ¬ wgS (RC w 10) c (Kx x1) d = 0 := fun q => hf ((wg_fit hv (Kx x1)).mp q)
        have hgb := wg_bd hv (c := c) (d := d) (Kx x1)
        rw [f_X2_search_b25, if_pos (i_l (by omega) (by omega)), n_cll (by omega), h12, h81, if_neg (fun q => by have := (c_lt (by omega) (by omega)).mp q; omega), c_wgap hvS (by omega) hresS, bind_s, wS_RC, if_neg (fun q => hg0 (by have := (c_le0 (by omega)).mp q; omega))]
        unfold f_X2_search_b146
        simp only [jlet_eq]
        rw [a_sl (by omega), nI_add, a_al, show d + (wgS (RC w 10) c (Kx x1) d - 1) + 1 = d + wgS (RC w 10) c (Kx x1) d by omega]
        refine ih (d + wgS (RC w 10) c (Kx x1) d) o ?_ (by omega) (by omega)
        rw [ho]
        obtain ⟨k, hk⟩ : ∃ k, min (d + wgS (RC w 10) c (Kx x1) d) (tn (RC w 10 8) + 1) = d + k ∧ k ≤ wgS (RC w 10) c (Kx x1) d := ⟨min (wgS (RC w 10) c (Kx x1) d) (tn (RC w 10 8) + 1 - d), by omega, by omega⟩
        rw [hk.1, scan_skip k (fun j hj => wg_none hv (Kx x1) (by omega))]
    · rw [Nat.min_eq_right (by omega)] at ho
      rw [f_X2_search_b25, if_pos (i_l (by omega) (by omega)), n_cll (by omega), h12, h81, if_pos ((c_lt (by omega) (by omega)).mpr (by omega)), c_end (fun b m f l e => by have := hbd _ o ho (by omega) b m f l e; omega)]
      have hb := hbd _ o ho (Nat.le_refl _)
      have hfull : scS (RC w 10) c (Kx x1) = o := ho.symm
      rw [hfull]
      exact ⟨o, rfl, fun _ => RelA_rf hb, fun _ => rfl, hb⟩
theorem c_search {w : Wd} {c : Nat} {x1 : Int32} (hv : VR (RC w 10)) (hres : resC w c) :
    ∃ o' : Option Tup, f_X2_search x1 w = some (fnd o', wS w o') ∧ (x1 = -1 → RelA (tn (RC w 10 5)) o' (scS (RC w 10) c (Kx x1))) ∧ (¬ x1 = -1 → RelB o' (scS (RC w 10) c (Kx x1))) ∧ (∀ b m f l, o' = some (b, m, f, l) → f ≤ b ∧ b ≤ l ∧ l ≤ 9999) := by
  obtain ⟨h81, h82, h83⟩ := VR_8 hv
  obtain ⟨h51, h52, h53⟩ := VR_5 hv
  have := c_loop hv hres (Classical.em (x1 = -1)) FUEL 0 none (by rw [Nat.min_eq_left (by omega)]; rfl) (by omega) (by unfold FUEL; omega)
  unfold f_X2_search
  simp only [wput_eq]
  have e : (wset w 1 5 (-10001)).1 12 0 = RC w 10 5 := by rw [ws_c _ _ (by decide)]; exact RC_s10 (k := 0) (by omega)
  rw [if_pos (i_l (by omega) (by omega)), n_cll (by omega), e, h51, a_lm, jlet_eq]
  rw [tn_n (by omega)]
  exact this
