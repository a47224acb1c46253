/-! CHANGES: settings, light, clearing, the grid -/
theorem VR_sm {r : Row} (hv : VR r) {k : Nat} {x : Int32} (h1 : 11 ≤ k) (hx : rg x 0 4095) : VR (rset r k x) := by
  obtain ⟨h0, h1', hw, h5, h6, h7, h8, h9, h10, hm⟩ := hv
  unfold VR rset
  refine ⟨by rw [if_neg (by omega)]; exact h0, by rw [if_neg (by omega)]; exact h1', fun j hj => by rw [if_neg (by omega)]; exact hw j hj, by rw [if_neg (by omega)]; exact h5, by rw [if_neg (by omega)]; exact h6, by rw [if_neg (by omega)]; exact h7, by rw [if_neg (by omega)]; exact h8, by rw [if_neg (by omega)]; exact h9, by rw [if_neg (by omega)]; exact h10, fun j hj => ?_⟩
  by_cases z : 11 + j = k
  · rw [if_pos z]; exact hx
  · rw [if_neg z]; exact hm j hj
theorem m_may {n : Nat} (hn : n ≤ 5) (x : Int32) : f_X6_maySet (nI n) x = some (if fLeast n ≤ x ∧ x ≤ fMost n then 1 else 0) := by
  have zz : ∀ (a b : Int32), ((f_X6_in x a b).bind (fun v1 => if zb v1 = true then some v1 else none)) = some (if a ≤ x ∧ x ≤ b then 1 else 0) := fun a b => by
    rw [f_in, bind_s]
    split
    · rfl
    · rfl
  unfold f_X6_maySet
  rcases (by omega : n = 0 ∨ n = 1 ∨ n = 2 ∨ n = 3 ∨ n = 4 ∨ n = 5) with rfl | rfl | rfl | rfl | rfl | rfl
  · exact zz 0 50
  · exact zz 0 2000
  · exact zz 1 4095
  · exact zz 100 9999
  · exact zz 1 500
  · exact zz 0 500
theorem m_mayN {k : Int32} (h : ¬ ((0 : Int32) ≤ k ∧ k ≤ 5)) (x : Int32) : f_X6_maySet k x = some 0 := by
  unfold f_X6_maySet
  have g : ∀ n : Nat, n ≤ 5 → ¬ k = nI n := fun n hn q => h (by rw [q]; exact ⟨nI_pos' (by omega), (c_lel (by decide) (by omega)).mpr (by omega)⟩)
  rw [if_neg (show ¬ k = 0 from g 0 (by omega)), if_neg (show ¬ k = 1 from g 1 (by omega)), if_neg (show ¬ k = 2 from g 2 (by omega)), if_neg (show ¬ k = 3 from g 3 (by omega)), if_neg (show ¬ k = 4 from g 4 (by omega)), if_neg (show ¬ k = 5 from g 5 (by omega))]
  rfl
theorem lm_rg {n : Nat} (hn : n ≤ 5) {x : Int32} (h : fLeast n ≤ x ∧ x ≤ fMost n) : rg x (([0, 0, 1, 100, 1, 0] : List Nat).getD n 0) (([50, 2000, 4095, 9999, 500, 500] : List Nat).getD n 0) := by
  have g : ∀ (a N : Nat), (OfNat.ofNat a : Nat) < 2 ^ 31 → (OfNat.ofNat N : Nat) < 2 ^ 31 → ((OfNat.ofNat a : Int32) ≤ x ∧ x ≤ (OfNat.ofNat N : Int32)) → rg x (OfNat.ofNat a) (OfNat.ofNat N) := fun a N ha hN hi => by
    rcases rng_d x a N ha hN with ⟨m, h1, h2, h3, -, -⟩ | ⟨e, -⟩
    · exact ⟨m, h1, h2, h3⟩
    · rw [w_t hi.1 hi.2] at e
      exact absurd (Option.some.inj e) one0
  rcases (by omega : n = 0 ∨ n = 1 ∨ n = 2 ∨ n = 3 ∨ n = 4 ∨ n = 5) with rfl | rfl | rfl | rfl | rfl | rfl
  · exact g 0 50 (by decide) (by decide) h
  · exact g 0 2000 (by decide) (by decide) h
  · exact g 1 4095 (by decide) (by decide) h
  · exact g 100 9999 (by decide) (by decide) h
  · exact g 1 500 (by decide) (by decide) h
  · exact g 0 500 (by decide) (by decide) h
theorem u_set {w v : Wd} (hr : RC w 10 = RM v) (hv : VR (RM v)) (k x : Int32) : Up w v (f_X4_putSetting k x w) (f_X6_putSetting k x v) := by
  unfold f_X4_putSetting f_X6_putSetting f_X4_putSetting_b26
  by_cases hk : (0 : Int32) ≤ k ∧ k ≤ 5
  · obtain ⟨n, hn, rfl⟩ := of_range hk.1 hk.2 (by decide)
    have hn' : n ≤ 5 := hn
    rw [w_t hk.1 hk.2, bind_s, if_neg one0, m_may hn', bind_s, n_cl (by omega), f_within]
    simp only [jlet_eq, wput_eq, bind_s]
    rw [if_pos (i_n (by omega) (by omega)), if_pos (i_n (by omega) (by omega)), if_pos (i_n (by omega) (by omega)), if_pos (i_n (by omega) (by omega))]
    by_cases hx : fLeast n ≤ x ∧ x ≤ fMost n
    · simp only [if_pos hx, k10, if_false]
      rw [a_la, if_pos (i_n (by omega) (by omega)), if_pos (i_n (by omega) (by omega)), n_cl (by omega), RC_s10 (by omega), hr, RM_at (by omega)]
      obtain ⟨q, hq, eq⟩ := VR_i hv (k := 5 + n) (by omega)
      refine ⟨_, _, _, rfl, rfl, (PutC.rf w).s _ _ (by omega), (PutM.rf v).s _ _, ?_, ?_, fun z => absurd (eq ▸ z) (nb (by omega))⟩
      · rw [RC_ss _ (by omega), RM_s _ (by omega), hr]
      · rw [RM_s _ (by omega)]
        have hg := lm_rg hn' hx
        obtain ⟨h0, h1, hw, h5, h6, h7, h8, h9, h10, hm⟩ := hv
        unfold VR rset
        refine ⟨by rw [if_neg (by omega)]; exact h0, by rw [if_neg (by omega)]; exact h1, fun j hj => by rw [if_neg (by omega)]; exact hw j hj, ?_⟩
        rcases (by omega : n = 0 ∨ n = 1 ∨ n = 2 ∨ n = 3 ∨ n = 4 ∨ n = 5) with rfl | rfl | rfl | rfl | rfl | rfl
        · exact ⟨hg, h6, h7, h8, h9, h10, fun j hj => by rw [if_neg (by omega)]; exact hm j hj⟩
        · exact ⟨h5, hg, h7, h8, h9, h10, fun j hj => by rw [if_neg (by omega)]; exact hm j hj⟩
        · exact ⟨h5, h6, hg, h8, h9, h10, fun j hj => by rw [if_neg (by omega)]; exact hm j hj⟩
        · exact ⟨h5, h6, h7, hg, h9, h10, fun j hj => by rw [if_neg (by omega)]; exact hm j hj⟩
        · exact ⟨h5, h6, h7, h8, hg, h10, fun j hj => by rw [if_neg (by omega)]; exact hm j hj⟩
        · exact ⟨h5, h6, h7, h8, h9, hg, fun j hj => by rw [if_neg (by omega)]; exact hm j hj⟩
    · simp only [if_neg hx, k00, if_true]
      exact Up_bad hr hv rfl rfl
  · rw [w_f hk, m_mayN hk, bind_s, bind_s, if_pos rfl, if_pos rfl]
    exact Up_bad hr hv rfl rfl
theorem cell_u {w v : Wd} (hr : RC w 10 = RM v) (hv : VR (RM v)) (e x y : Int32) : (∃ (c : Nat), c = cNo e x y ∧ okC (RM v) e x y ∧ f_X4_place e x y w = some (nI c) ∧ c < 32 ∧ f_X6_isCell e x y v = some 1 ∧ f_X6_cellPlace e x y = some (nI (pos c))) ∨ (f_X6_isCell e x y v = some 0 ∧ f_X4_place e x y w = some (-1) ∧ ¬ okC (RM v) e x y) := by
  rw [m_isCell]
  rcases c_pl (w := w) (by rw [hr]; exact hv) e x y with ⟨hok, hp, hc⟩ | ⟨hok, hp⟩
  · rw [hr] at hok
    exact .inl ⟨_, rfl, hok, hp, hc, by rw [if_pos hok], (m_placeC hv hok).1⟩
  · rw [hr] at hok
    exact .inr ⟨by rw [if_neg hok], hp, hok⟩
/-- the samples of a cell changed, up to one -/
def upTo (r : Row) (c j : Nat) (f : Int32 → Int32) : Row := fun k => if pos c ≤ k ∧ k < pos c + j then f (r k) else r k
theorem upTo_0 (r : Row) (c : Nat) (f : Int32 → Int32) : upTo r c 0 f = r := by
  funext k
  unfold upTo
  rw [if_neg (by omega)]
theorem upTo_at (r : Row) (c j : Nat) (f : Int32 → Int32) : upTo r c j f (pos c + j) = r (pos c + j) := by
  unfold upTo
  rw [if_neg (by omega)]
theorem upTo_in (r : Row) (c j i : Nat) (f : Int32 → Int32) (h : i < j) : upTo r c j f (pos c + i) = f (r (pos c + i)) := by
  unfold upTo
  rw [if_pos (by omega)]
theorem upTo_s (r : Row) (c j : Nat) (f : Int32 → Int32) : rset (upTo r c j f) (pos c + j) (f (r (pos c + j))) = upTo r c (j + 1) f := by
  funext k
  simp only [upTo, rset]
  (repeat' split) <;> first | rfl | (exfalso; omega) | (rename_i h _; subst h; rfl) | (rename_i h; subst h; rfl)
theorem VR_up {r : Row} (hv : VR r) {c j : Nat} (hc : c < 32) (hj : j ≤ 12) {f : Int32 → Int32} (hf : ∀ x, rg x 0 4095 → rg (f x) 0 4095) : VR (upTo r c j f) := by
  obtain ⟨h0, h1', hw, h5, h6, h7, h8, h9, h10, hm⟩ := hv
  have hp : 11 ≤ pos c := by unfold pos; omega
  unfold VR upTo
  refine ⟨by rw [if_neg (by omega)]; exact h0, by rw [if_neg (by omega)]; exact h1', fun j hj => by rw [if_neg (by omega)]; exact hw j hj, by rw [if_neg (by omega)]; exact h5, by rw [if_neg (by omega)]; exact h6, by rw [if_neg (by omega)]; exact h7, by rw [if_neg (by omega)]; exact h8, by rw [if_neg (by omega)]; exact h9, by rw [if_neg (by omega)]; exact h10, fun j hj => ?_⟩
  split
  · exact hf _ (hm j hj)
  · exact hm j hj
def brt (x a : Int32) : Int32 := if a + x < 4095 then a + x else 4095
theorem brt_n {a m : Nat} (ha : a ≤ 4095) (hm : m ≤ 4095) : brt (nI m) (nI a) = nI (min (a + m) 4095) := by
  unfold brt
  rw [nI_add]
  by_cases h : a + m < 4095
  · rw [if_pos ((c_ltl (by decide) (by omega)).mpr h), Nat.min_eq_left (by omega)]
  · rw [if_neg (fun q => h ((c_ltl (by decide) (by omega)).mp q)), Nat.min_eq_right (by omega)]
    rfl
theorem brt_rg {x : Int32} {m : Nat} (hm : m ≤ 4095) (h : rg x 0 4095) : rg (brt (nI m) x) 0 4095 := by
  obtain ⟨a, -, ha, rfl⟩ := h
  rw [brt_n ha hm]
  exact ⟨_, by omega, by omega, rfl⟩
theorem brt_le (x a : Int32) : (if a + x ≤ 4095 then a + x else 4095) = brt x a := by
  unfold brt
  by_cases h : a + x < 4095
  · rw [if_pos h, if_pos (Int32.le_of_lt h)]
  · rw [if_neg h]
    by_cases h2 : a + x ≤ 4095
    · rw [if_pos h2]
      exact Int32.le_antisymm h2 (Int32.not_lt.mp h)
    · rw [if_neg h2]
theorem c_bright {w : Wd} {k : Nat} {x : Int32} (hk : k < 384) : f_X4_brighten (nI k) x w = some (wset w 13 k (brt x (RC w 10 (11 + k)))) := by
  unfold f_X4_brighten f_X4_brighten_b35
  rw [e383, w_t (nI_pos' (by omega)) ((c_lel (by decide) (by omega)).mpr (by omega)), bind_s, if_neg one0, if_pos (i_n hk (by omega)), if_pos (i_n hk (by omega)), n_cl (by omega), RC_m10 hk]
  rfl
theorem m_raised {v : Wd} {k : Nat} {x : Int32} (hk : k < 395) : f_X6_raised (nI k) x v = some (brt x (RM v k), wset v 1 k (brt x (RM v k))) := by
  unfold f_X6_raised f_X6_raised_b28
  rw [if_pos (i_n hk (by omega)), n_cl (by omega), RM_at hk]
  simp only [jlet_eq, wput_eq]
  simp only [i_n hk (show 395 < 2 ^ 31 by omega), if_true, ws_same]
  rw [← brt_le]
  by_cases h : RM v k + x ≤ 4095
  · rw [if_pos h, if_pos h]
  · rw [if_neg h, if_neg h]
def cnt12 (g : Nat → Bool) (j : Nat) : Nat := foldN (fun i s => s + (if g i = true then 1 else 0)) j 0 0
theorem cnt_s (g : Nat → Bool) (j : Nat) : cnt12 g (j + 1) = cnt12 g j + (if g j = true then 1 else 0) := by
  unfold cnt12
  rw [foldN_succ, Nat.zero_add]
theorem cnt_le (g : Nat → Bool) : ∀ j, cnt12 g j ≤ j
  | 0 => Nat.le_refl _
  | j + 1 => by
    rw [cnt_s]
    have := cnt_le g j
    split <;> omega
theorem cntS_g {r : Row} {c : Nat} {lim : Int32} {g : Nat → Bool} (h : ∀ i, i < 12 → (g i = true ↔ ¬ r (pos c + i) < lim)) : cntS r c lim = cnt12 g 12 := by
  unfold cntS cnt12
  refine foldN_congr 12 0 0 (fun i _ hi s => ?_)
  have := h i (by omega)
  by_cases z : r (pos c + i) < lim
  · rw [if_pos z, if_neg (fun q => this.mp q z)]
  · rw [if_neg z, if_pos (this.mpr z)]
theorem u_light {w v : Wd} (hr : RC w 10 = RM v) (hv : VR (RM v)) (e x y p z : Int32) (hp : f_X4_place e x y w = some p) : Up w v (f_X4_addLight p z w) (f_X6_putShine e x y z v) := by
  unfold f_X4_addLight f_X6_putShine f_X4_addLight_b18 f_X6_putShine_b22
  rcases cell_u hr hv e x y with ⟨c, ec, hok, hp', hc, e1, e2⟩ | ⟨e1, hp', hok⟩
  · obtain rfl : p = nI c := Option.some.inj (hp.symm.trans hp')
    rw [c_isCell hc, e1, bind_s, bind_s, if_neg one0, if_neg one0]
    rcases rng_d z 1 4095 (by decide) (by decide) with ⟨m, hm1, hm2, rfl, e6, e7⟩ | ⟨e6, e7⟩
    · have hm : m ≤ 4095 := hm2
      rw [e6, e7, bind_s, bind_s, if_neg one0, if_neg one0, e2, bind_s]
      have hpb : ∀ j, j < 12 → pos c + j < 395 := fun j hj => by unfold pos; omega
      have hpo : ∀ j, 11 + (c * 12 + j) = pos c + j := fun j => by unfold pos; omega
      obtain ⟨w', a1, a2, a3⟩ := loopG (fun n (s : Wd) i => f_X4_addLight_b24 (nI c) (nI m) n i s) (fun s => (f_X4_countFrom (nI c) 4095 s).bind (fun v3 => some (v3, s))) 12 (fun j s => PutC w s ∧ RC s 10 = upTo (RM v) c j (brt (nI m))) (by omega)
        (fun m' s hI => by
          show f_X4_addLight_b24 (nI c) (nI m) (m' + 1) (nI 12) s = _
          rw [f_X4_addLight_b24, if_pos (by decide)])
        (fun m' j s hj hI => by
          refine ⟨wset s 13 (c * 12 + j) (brt (nI m) (RC s 10 (11 + (c * 12 + j)))), ⟨hI.1.s _ _ (by omega), ?_⟩, ?_⟩
          · rw [RC_sm _ (by omega), hpo, hI.2, upTo_at, upTo_s]
          · show f_X4_addLight_b24 (nI c) (nI m) (m' + 1) (nI j) s = f_X4_addLight_b24 (nI c) (nI m) m' (nI (j + 1)) _
            rw [f_X4_addLight_b24, if_neg (fun q => by have := (c_lle (by decide) (by omega)).mp q; omega), a_ml, nI_add, c_bright (by omega), bind_s, a_al]) w ⟨PutC.rf w, by rw [upTo_0]; exact hr⟩
      obtain ⟨⟨n', v'⟩, b1, b2, b3, b4⟩ := loopG (fun n (s : Nat × Wd) i => f_X6_putShine_b40 (nI m) (nI (pos c)) n (nI s.1) i s.2) (fun s => some (nI s.1, s.2)) 12 (fun j s => PutM v s.2 ∧ RM s.2 = upTo (RM v) c j (brt (nI m)) ∧ s.1 = cnt12 (fun i => decide (brt (nI m) (RM v (pos c + i)) = 4095)) j) (by omega)
        (fun m' s hI => by
          show f_X6_putShine_b40 (nI m) (nI (pos c)) (m' + 1) (nI s.1) (nI 12) s.2 = _
          rw [f_X6_putShine_b40, if_pos (by decide)])
        (fun m' j s hj hI => by
          refine ⟨(s.1 + (if decide (brt (nI m) (RM v (pos c + j)) = 4095) = true then 1 else 0), wset s.2 1 (pos c + j) (brt (nI m) (RM v (pos c + j)))), ⟨hI.1.s _ _, ?_, ?_⟩, ?_⟩
          · rw [RM_s _ (hpb j hj), hI.2.1, upTo_s]
          · rw [cnt_s, hI.2.2]
          · show f_X6_putShine_b40 (nI m) (nI (pos c)) (m' + 1) (nI s.1) (nI j) s.2 = f_X6_putShine_b40 (nI m) (nI (pos c)) m' (nI _) (nI (j + 1)) _
            rw [f_X6_putShine_b40, if_neg (fun q => by have := (c_lle (by decide) (by omega)).mp q; omega), nI_add, m_raised (hpb j hj), bind_s, hI.2.1, upTo_at]
            unfold f_X6_putShine_b71
            simp only [jlet_eq, a_al, decide_eq_true_eq]
            by_cases q : brt (nI m) (RM v (pos c + j)) = 4095
            · rw [if_pos q, if_pos q]
            · rw [if_neg q, if_neg q]) (0, v) ⟨PutM.rf v, by rw [upTo_0], rfl⟩
      have hcount : cntS (RC w' 10) c 4095 = cnt12 (fun i => decide (brt (nI m) (RM v (pos c + i)) = 4095)) 12 := by
        rw [a3]
        refine cntS_g (fun i hi => ?_)
        rw [upTo_in _ _ _ _ _ hi]
        obtain ⟨a, -, ha, ea⟩ := VR_m hv hc (j := i) hi
        rw [ea, brt_n ha hm, decide_eq_true_eq, c_eql (by decide) (by omega), c_ltl (by decide) (by omega)]
        have : min (a + m) 4095 ≤ 4095 := Nat.min_le_right _ _
        generalize min (a + m) 4095 = q at *
        show q = 4095 ↔ ¬ q < 4095
        omega
      have hle := cnt_le (fun i => decide (brt (nI m) (RM v (pos c + i)) = 4095)) 12
      refine ⟨nI (cnt12 (fun i => decide (brt (nI m) (RM v (pos c + i)) = 4095)) 12), w', v', ?_, ?_, a2, b2, by rw [a3]; exact b3.symm, ?_, fun q => absurd q (nb (by omega))⟩
      · rw [show f_X4_addLight_b24 (nI c) (nI m) FUEL 0 w = _ from a1, c_count hc, bind_s, hcount]
      · rw [show f_X6_putShine_b40 (nI m) (nI (pos c)) FUEL 0 0 v = _ from b1]
        show some (nI n', v') = _
        rw [show n' = _ from b4]
      · show VR (RM v')
        rw [show RM v' = _ from b3]
        exact VR_up hv hc (by omega) (fun x hx => brt_rg hm hx)
    · rw [e6, e7, bind_s, bind_s, if_pos rfl, if_pos rfl]
      exact Up_bad hr hv rfl rfl
  · obtain rfl : p = -1 := Option.some.inj (hp.symm.trans hp')
    rw [c_isCellN, e1, bind_s, bind_s, if_pos rfl, if_pos rfl]
    exact Up_bad hr hv rfl rfl
theorem u_dark {w v : Wd} (hr : RC w 10 = RM v) (hv : VR (RM v)) (e x y p : Int32) (hp : f_X4_place e x y w = some p) : Up w v (f_X4_darken p w) (f_X6_putClear e x y v) := by
  unfold f_X4_darken f_X6_putClear
  rcases cell_u hr hv e x y with ⟨c, ec, hok, hp', hc, e1, e2⟩ | ⟨e1, hp', hok⟩
  · obtain rfl : p = nI c := Option.some.inj (hp.symm.trans hp')
    rw [c_isCell hc, e1, bind_s, bind_s, if_neg one0, if_neg one0, e2, bind_s, c_count hc, bind_s]
    have hpb : ∀ j, j < 12 → pos c + j < 395 := fun j hj => by unfold pos; omega
    have hpo : ∀ j, 11 + (c * 12 + j) = pos c + j := fun j => by unfold pos; omega
    obtain ⟨w', a1, a2, a3⟩ := loopG (fun n (s : Wd) i => f_X4_darken_b20 (nI c) (nI (cntS (RC w 10) c 1)) n i s) (fun s => some (nI (cntS (RC w 10) c 1), s)) 12 (fun j s => PutC w s ∧ RC s 10 = upTo (RM v) c j (fun _ => 0)) (by omega)
      (fun m' s hI => by
        show f_X4_darken_b20 (nI c) _ (m' + 1) (nI 12) s = _
        rw [f_X4_darken_b20, if_pos (by decide)])
      (fun m' j s hj hI => by
        refine ⟨wset s 13 (c * 12 + j) 0, ⟨hI.1.s _ _ (by omega), ?_⟩, ?_⟩
        · rw [RC_sm _ (by omega), hpo, hI.2, upTo_s (f := fun _ => 0)]
        · show f_X4_darken_b20 (nI c) _ (m' + 1) (nI j) s = f_X4_darken_b20 (nI c) _ m' (nI (j + 1)) _
          rw [f_X4_darken_b20, if_neg (fun q => by have := (c_lle (by decide) (by omega)).mp q; omega), a_ml, nI_add, if_pos (i_n (by omega) (by omega)), n_cl (by omega), a_al]
          rfl) w ⟨PutC.rf w, by rw [upTo_0]; exact hr⟩
    obtain ⟨⟨n', v'⟩, b1, b2, b3, b4⟩ := loopG (fun n (s : Nat × Wd) i => f_X6_putClear_b28 (nI (pos c)) n (nI s.1) i s.2) (fun s => some (nI s.1, s.2)) 12 (fun j s => PutM v s.2 ∧ RM s.2 = upTo (RM v) c j (fun _ => 0) ∧ s.1 = cnt12 (fun i => decide (¬ RM v (pos c + i) = 0)) j) (by omega)
      (fun m' s hI => by
        show f_X6_putClear_b28 (nI (pos c)) (m' + 1) (nI s.1) (nI 12) s.2 = _
        rw [f_X6_putClear_b28, if_pos (by decide)])
      (fun m' j s hj hI => by
        refine ⟨(s.1 + (if decide (¬ RM v (pos c + j) = 0) = true then 1 else 0), wset s.2 1 (pos c + j) 0), ⟨hI.1.s _ _, ?_, ?_⟩, ?_⟩
        · rw [RM_s _ (hpb j hj), hI.2.1, upTo_s (f := fun _ => 0)]
        · rw [cnt_s, hI.2.2]
        · show f_X6_putClear_b28 (nI (pos c)) (m' + 1) (nI s.1) (nI j) s.2 = f_X6_putClear_b28 (nI (pos c)) m' (nI _) (nI (j + 1)) _
          have hb := hpb j hj
          rw [f_X6_putClear_b28, if_neg (fun q => by have := (c_lle (by decide) (by omega)).mp q; omega), nI_add, if_pos (i_n hb (by omega)), n_cl (by omega), RM_at hb, hI.2.1, upTo_at]
          unfold f_X6_putClear_b55
          simp only [jlet_eq, a_al, nI_add, decide_eq_true_eq, i_n hb (show 395 < 2 ^ 31 by omega), if_true, wput_eq, n_cl (show pos c + j < 2 ^ 31 by omega)]
          by_cases q : RM v (pos c + j) = 0
          · rw [if_pos q, if_neg (fun z => z q)]
          · rw [if_neg q, if_pos q]) (0, v) ⟨PutM.rf v, by rw [upTo_0], rfl⟩
    have hcount : cntS (RC w 10) c 1 = cnt12 (fun i => decide (¬ RM v (pos c + i) = 0)) 12 := by
      rw [hr]
      refine cntS_g (fun i hi => ?_)
      obtain ⟨a, -, ha, ea⟩ := VR_m hv hc (j := i) hi
      rw [ea, decide_eq_true_eq, c_eq0 (by omega), c_ltl (by decide) (by omega)]
      show ¬ a = 0 ↔ ¬ a < 1
      omega
    have hle := cnt_le (fun i => decide (¬ RM v (pos c + i) = 0)) 12
    refine ⟨nI (cnt12 (fun i => decide (¬ RM v (pos c + i) = 0)) 12), w', v', ?_, ?_, a2, b2, by rw [a3]; exact b3.symm, ?_, fun q => absurd q (nb (by omega))⟩
    · rw [show f_X4_darken_b20 (nI c) (nI (cntS (RC w 10) c 1)) FUEL 0 w = _ from a1, hcount]
    · rw [show f_X6_putClear_b28 (nI (pos c)) FUEL 0 0 v = _ from b1]
      show some (nI n', v') = _
      rw [show n' = _ from b4]
    · show VR (RM v')
      rw [show RM v' = _ from b3]
      exact VR_up hv hc (by omega) (fun x hx => ⟨0, by omega, by omega, rfl⟩)
  · obtain rfl : p = -1 := Option.some.inj (hp.symm.trans hp')
    rw [c_isCellN, e1, bind_s, bind_s, if_pos rfl, if_pos rfl]
    exact Up_bad hr hv rfl rfl
/-- the samples at 0, up to one -/
def zrT (r : Row) (j : Nat) : Row := fun k => if 11 ≤ k ∧ k < 11 + j then 0 else r k
theorem zrT_0 (r : Row) : zrT r 0 = r := by
  funext k
  unfold zrT
  rw [if_neg (by omega)]
theorem zrT_s (r : Row) (j : Nat) : rset (zrT r j) (11 + j) 0 = zrT r (j + 1) := by
  funext k
  simp only [zrT, rset]
  (repeat' split) <;> first | rfl | (exfalso; omega)
theorem u_grid {w v : Wd} (hr : RC w 10 = RM v) (hv : VR (RM v)) (a b : Int32) : Up w v (f_X4_layGrid a b w) (f_X6_putGrid a b v) := by
  unfold f_X4_layGrid f_X6_putGrid f_X4_layGrid_b18 f_X6_putGrid_b18
  rcases rng_d a 1 4 (by decide) (by decide) with ⟨n, hn1, hn2, rfl, e4, e5⟩ | ⟨e4, e5⟩
  · have hn1' : 1 ≤ n := hn1
    have hn2' : n ≤ 4 := hn2
    rw [e4, e5, bind_s, bind_s, if_neg one0, if_neg one0]
    rcases rng_d b 1 4 (by decide) (by decide) with ⟨m, hm1, hm2, rfl, e6, e7⟩ | ⟨e6, e7⟩
    · have hm1' : 1 ≤ m := hm1
      have hm2' : m ≤ 4 := hm2
      rw [e6, e7, bind_s, bind_s, if_neg one0, if_neg one0, if_pos (by decide), if_pos (by decide)]
      simp only [jlet_eq, wput_eq]
      rw [if_pos (by decide), if_pos (by decide)]
      rw [show ((0 : Int32).toNatClampNeg) = 0 from rfl, show ((1 : Int32).toNatClampNeg) = 1 from rfl, RM_at (k := 0) (by omega), RM_at (k := 1) (by omega), RC_0 w 10, RC_1 w 10, hr]
      obtain ⟨w0, hw0⟩ : ∃ w0, w0 = wset (wset w 10 0 (nI n)) 10 1 (nI m) := ⟨_, rfl⟩
      obtain ⟨v0, hv0⟩ : ∃ v0, v0 = wset (wset v 1 0 (nI n)) 1 1 (nI m) := ⟨_, rfl⟩
      rw [← hw0, ← hv0]
      have pw : PutC w w0 := by rw [hw0]; exact ((PutC.rf w).s _ _ (by omega)).s _ _ (by omega)
      have pv : PutM v v0 := by rw [hv0]; exact ((PutM.rf v).s _ _).s _ _
      have r0 : RC w0 10 = rset (rset (RM v) 0 (nI n)) 1 (nI m) := by rw [hw0, RC_s1, RC_s0, hr]
      have r1 : RM v0 = rset (rset (RM v) 0 (nI n)) 1 (nI m) := by rw [hv0, RM_s _ (by omega), RM_s _ (by omega)]
      obtain ⟨w', a1, a2, a3⟩ := loopG (fun k (s : Wd) i => f_J7_fill_53178_13_b5 0 384 k i s) (fun s => some s) 384 (fun j s => PutC w s ∧ RC s 10 = zrT (RC w0 10) j) (by omega)
        (fun m' s hI => by
          show f_J7_fill_53178_13_b5 0 384 (m' + 1) (nI 384) s = _
          rw [f_J7_fill_53178_13_b5, if_pos (by decide)])
        (fun m' j s hj hI => by
          refine ⟨wset s 13 j 0, ⟨hI.1.s _ _ (by omega), ?_⟩, ?_⟩
          · rw [RC_sm _ (by omega), hI.2, zrT_s]
          · show f_J7_fill_53178_13_b5 0 384 (m' + 1) (nI j) s = f_J7_fill_53178_13_b5 0 384 m' (nI (j + 1)) _
            rw [f_J7_fill_53178_13_b5, if_neg (fun q => by have := (c_lle (by decide) (by omega)).mp q; omega), if_pos (i_n (by omega) (by omega)), n_cl (by omega), a_al]
            rfl) w0 ⟨pw, by rw [zrT_0]⟩
      obtain ⟨v', b1, b2, b3⟩ := loopE (fun k (s : Wd) i => f_X6_putGrid_b54 (RM v 0 * RM v 1) k i s) (fun s => some (RM v 0 * RM v 1, s)) 395 (fun j s => PutM v s ∧ RM s = zrT (RM v0) (j - 11) ∧ 11 ≤ j)
        (fun m' s hI => by
          show f_X6_putGrid_b54 _ (m' + 1) (nI 395) s = _
          rw [f_X6_putGrid_b54, if_pos (by decide)])
        (fun m' j s hj hI => by
          refine ⟨wset s 1 j 0, ⟨hI.1.s _ _, ?_, by omega⟩, ?_⟩
          · obtain ⟨i, rfl⟩ : ∃ i, j = 11 + i := ⟨j - 11, by omega⟩
            rw [RM_s _ hj, hI.2.1, show 11 + i - 11 = i by omega, zrT_s, show 11 + i + 1 - 11 = i + 1 by omega]
          · show f_X6_putGrid_b54 _ (m' + 1) (nI j) s = f_X6_putGrid_b54 _ m' (nI (j + 1)) _
            rw [f_X6_putGrid_b54, if_neg (fun q => by have := (c_lle (by decide) (by omega)).mp q; omega), if_pos (i_n hj (by omega)), n_cl (by omega), a_al]
            rfl) 384 FUEL 11 v0 (by omega) (by unfold FUEL; omega) ⟨pv, by rw [Nat.sub_self, zrT_0], by omega⟩
      obtain ⟨q0, -, hq0, eq0⟩ := hv.1
      obtain ⟨q1, -, hq1, eq1⟩ := hv.2.1
      have hq : q0 * q1 ≤ 16 := Nat.le_trans (Nat.mul_le_mul hq0 hq1) (by decide)
      refine ⟨RM v 0 * RM v 1, w', v', ?_, ?_, a2, b2, ?_, ?_, fun z => absurd z (by rw [eq0, eq1, pk_mul]; exact nb (by omega))⟩
      · unfold f_J7_fill_53178_13
        rw [show f_J7_fill_53178_13_b5 0 384 FUEL 0 w0 = _ from a1, bind_s]
      · exact b1
      · rw [a3, b3.1, r0, r1]
      · show VR (RM v')
        rw [b3.1, r1]
        obtain ⟨h0, h1, hw, h5, h6, h7, h8, h9, h10, hm⟩ := hv
        unfold VR zrT rset
        refine ⟨⟨n, hn1', hn2', rfl⟩, ⟨m, hm1', hm2', rfl⟩, fun j hj => ?_, h5, h6, h7, h8, h9, h10, fun j hj => ?_⟩
        · rw [if_neg (by omega), if_neg (by omega), if_neg (by omega)]; exact hw j hj
        · rw [if_pos (by omega)]; exact ⟨0, by omega, by omega, rfl⟩
    · rw [e6, e7, bind_s, bind_s, if_pos rfl, if_pos rfl]
      exact Up_bad hr hv rfl rfl
  · rw [e4, e5, bind_s, bind_s, if_pos rfl, if_pos rfl]
    exact Up_bad hr hv rfl rfl
