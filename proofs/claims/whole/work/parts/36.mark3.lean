/-- what readings of the class leave as it was: all but the sight -/
def FrC (w v : Wd) : Prop := (∀ a, (a = 0 ∨ 6 ≤ a) → v.1 a = w.1 a) ∧ v.2 = w.2
theorem FrC.rf (w : Wd) : FrC w w := ⟨fun _ _ => rfl, rfl⟩
theorem FrC.tr {w v u : Wd} (h1 : FrC w v) (h2 : FrC v u) : FrC w u := ⟨fun a q => (h2.1 a q).trans (h1.1 a q), h2.2.trans h1.2⟩
theorem FrC_RC {w v : Wd} (h : FrC w v) : RC v 10 = RC w 10 := by
  funext k
  unfold RC
  rw [h.1 10 (by omega), h.1 (10 + 1) (by omega), h.1 (10 + 2) (by omega), h.1 (10 + 3) (by omega)]
theorem CK_of {w v : Wd} {c : Nat} (hck : CK w) (hF : FrQ c w v) (h : ckS (RC w 10) v c) : CK v := by
  intro k hk
  rw [FrQ_RC hF]
  by_cases e : k = c
  · subst e; exact Or.inr h
  · obtain ⟨e2, e3, e4⟩ := hF.2.2 k e
    rcases hck k hk with q | q
    · exact Or.inl (e2.trans q)
    · exact Or.inr ⟨e2.trans q.1, fun z => e3.trans (q.2.1 z), fun z => ⟨e3.trans (q.2.2 z).1, e4.trans (q.2.2 z).2⟩⟩
theorem lk_le (r : Row) (c : Nat) : (lkS r c).1 ≤ 5 := by
  unfold lkS
  split
  · exact (by decide)
  · split
    · exact (by decide)
    · split
      · split
        · exact Nat.zero_le _
        · exact (by decide : 3 ≤ 5)
      · simp only
        split <;> omega
theorem lk_dist {r : Row} {c : Nat} : ((lkS r c).1 = 0 → ∃ b, (lkS r c).2.1 = some b) ∧ (¬ (lkS r c).1 = 0 → (lkS r c).2.1 = none) := by
  unfold lkS
  split
  · exact ⟨fun q => absurd q (by decide), fun _ => rfl⟩
  · split
    · exact ⟨fun q => absurd q (by decide), fun _ => rfl⟩
    · split
      · split
        · exact ⟨fun _ => ⟨_, rfl⟩, fun q => absurd rfl q⟩
        · exact ⟨fun q => absurd q (by decide), fun _ => rfl⟩
      · refine ⟨fun q => ?_, fun _ => rfl⟩
        simp only at q
        split at q <;> exact absurd q (by decide)
theorem lk_dlt {r : Row} (hv : VR r) {c b : Nat} (h : (lkS r c).2.1 = some b) : b ≤ 9999 := by
  obtain ⟨h81, h82, h83⟩ := VR_8 hv
  unfold lkS at h
  split at h
  · cases h
  · split at h
    · cases h
    · split at h
      · rename_i b' m' f' l' hs
        have := scan_ok _ hs
        split at h
        · cases h; omega
        · cases h
      · cases h
theorem c_mark {w : Wd} {c : Nat} (hv : VR (RC w 10)) (hck : CK w) (hc : c < 32) : ∃ v : Wd, f_X2_markOf (nI c) w = some (nI (lkS (RC w 10) c).1, v) ∧ FrC w v ∧ CK v ∧ ckS (RC w 10) v c := by
  unfold f_X2_markOf f_X2_markOf_b47 f_X2_markOf_b48
  rw [w_t (nI_pos' (by omega)) ((c_lel (by omega) (by omega)).mpr (by omega)), bind_s, if_neg (by decide), if_pos (i_n (by omega) (by omega)), n_cl (by omega)]
  have hl5 := lk_le (RC w 10) c
  have hn1 : ∀ n : Nat, n ≤ 5 → ¬ nI n = -1 := fun n hn q => by
    have := congrArg Int32.toInt q
    rw [toI_n (by omega)] at this
    have e1 : (-1 : Int32).toInt = -1 := by decide
    omega
  by_cases hk : w.1 2 c = -1
  · rw [if_pos hk]
    obtain ⟨v, m, e, hF, h2, hcase⟩ := c_reckon hv hc
    rw [e, bind_s]
    rcases hcase with ⟨m5, m4, hm, mn4, hd⟩ | ⟨m5, hres, hb, hdk, hsc⟩
    · rw [if_neg (fun q => m5 ((c_eql (by omega) (by omega)).mp q)), if_pos (i_n (by omega) (by omega)), wput_eq, if_pos (i_n (by omega) (by omega)), ws_same]
      have hck2 : ckS (RC w 10) (wset v 2 c (nI m)) c := ⟨by rw [ws_same, hm], fun q => by rw [ws_c _ _ (by decide)]; exact hd (hm.trans q), fun q => absurd (hm.trans q) mn4⟩
      have hF2 : FrQ c w (wset v 2 c (nI m)) := hF.s2 _
      exact ⟨_, by rw [hm], ⟨hF2.1, hF2.2.1⟩, CK_of hck hF2 hck2, hck2⟩
    · subst m5
      have hR := FrQ_RC hF
      rw [if_pos (show nI 5 = 5 from rfl)]
      obtain ⟨u, e1, hF1, h21, h3, h4⟩ := c_pairs (by rw [hR]; exact hv) hc hres
      rw [hR] at e1 h3 h4
      rw [e1, bind_s, if_pos (i_n (by omega) (by omega)), wput_eq, if_pos (i_n (by omega) (by omega)), ws_same]
      have hlk : lkS (RC w 10) c = (if omin (omin (bstS (RC w 10) c (Kno 2)) (bstS (RC w 10) c (Kno 1))) (bstS (RC w 10) c (Kno 0)) = none then 5 else 4, none, omin (omin (bstS (RC w 10) c (Kno 2)) (bstS (RC w 10) c (Kno 1))) (bstS (RC w 10) c (Kno 0)), omax (omax (bstS (RC w 10) c (Kno 2)) (bstS (RC w 10) c (Kno 1))) (bstS (RC w 10) c (Kno 0))) := by
        unfold lkS
        rw [if_neg (by rw [hb]; decide), if_neg (by rw [hdk]; decide), hsc]
      have hF2 := (hF.tr hF1).s2 (nI (if omin (omin (bstS (RC w 10) c (Kno 2)) (bstS (RC w 10) c (Kno 1))) (bstS (RC w 10) c (Kno 0)) = none then 5 else 4))
      have hck2 : ckS (RC w 10) (wset u 2 c (nI (if omin (omin (bstS (RC w 10) c (Kno 2)) (bstS (RC w 10) c (Kno 1))) (bstS (RC w 10) c (Kno 0)) = none then 5 else 4))) c := by
        unfold ckS
        rw [hlk]
        refine ⟨ws_same .., fun q => ?_, fun _ => ⟨by rw [ws_c _ _ (by decide)]; exact h3, by rw [ws_c _ _ (by decide)]; exact h4⟩⟩
        simp only at q
        split at q <;> exact absurd q (by decide)
      rw [hlk]
      exact ⟨_, rfl, ⟨hF2.1, hF2.2.1⟩, CK_of hck hF2 hck2, hck2⟩
  · rw [if_neg hk, if_pos (i_n (by omega) (by omega))]
    rcases hck c hc with q | q
    · exact absurd q hk
    · exact ⟨w, by rw [q.1], FrC.rf w, hck, q⟩
theorem c_dist {w : Wd} {c : Nat} (hv : VR (RC w 10)) (hck : CK w) (hc : c < 32) : ∃ v : Wd, f_X2_distanceOf (nI c) w = some (enc (lkS (RC w 10) c).2.1, v) ∧ FrC w v ∧ CK v := by
  obtain ⟨v, e, hF, hck', hs⟩ := c_mark hv hck hc
  unfold f_X2_distanceOf f_X2_distanceOf_b20
  have hl5 := lk_le (RC w 10) c
  rw [e, bind_s]
  simp only
  by_cases h : (lkS (RC w 10) c).1 = 0
  · rw [if_pos ((c_eq0 (by omega)).mpr h), if_pos (i_n (by omega) (by omega)), n_cl (by omega), hs.2.1 h]
    exact ⟨v, rfl, hF, hck'⟩
  · rw [if_neg (fun q => h ((c_eq0 (by omega)).mp q)), lk_dist.2 h]
    exact ⟨v, rfl, hF, hck'⟩
theorem c_near {w : Wd} {c : Nat} (hv : VR (RC w 10)) (hck : CK w) (hc : c < 32) (h : (lkS (RC w 10) c).1 = 4) : ∃ v : Wd, f_X2_nearOf (nI c) w = some (enc (lkS (RC w 10) c).2.2.1, v) ∧ FrC w v ∧ CK v := by
  obtain ⟨v, e, hF, hck', hs⟩ := c_mark hv hck hc
  unfold f_X2_nearOf f_X2_nearOf_b21
  rw [e, bind_s]
  simp only
  rw [if_pos (by rw [h]; rfl), if_pos (i_n (by omega) (by omega)), n_cl (by omega), (hs.2.2 h).1]
  exact ⟨v, rfl, hF, hck'⟩
theorem c_beyond {w : Wd} {c : Nat} (hv : VR (RC w 10)) (hck : CK w) (hc : c < 32) (h : (lkS (RC w 10) c).1 = 4) : ∃ v : Wd, f_X2_beyondOf (nI c) w = some (enc (lkS (RC w 10) c).2.2.2, v) ∧ FrC w v ∧ CK v := by
  obtain ⟨v, e, hF, hck', hs⟩ := c_mark hv hck hc
  unfold f_X2_beyondOf f_X2_beyondOf_b21
  rw [e, bind_s]
  simp only
  rw [if_pos (by rw [h]; rfl), if_pos (i_n (by omega) (by omega)), n_cl (by omega), (hs.2.2 h).2]
  exact ⟨v, rfl, hF, hck'⟩
