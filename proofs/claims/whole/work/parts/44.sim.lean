/-! BOTH SIDES ALIKE: what a class world and a reference world share between calls -/
def RP (v : Wd) (i : Nat) : Row := fun k => if k < 395 then v.1 3 (395 * i + k) else 0
def TX (w v : Wd) : Prop := ∃ n : Nat, n ≤ 150 ∧ w.1 6 1 = nI n ∧ v.1 0 6 = nI n ∧ ∀ k, k < n → w.1 7 k = v.1 5 k ∧ rg (v.1 5 k) 0 127
def KP (w v : Wd) : Prop := ∃ (n : Nat) (p : Nat → Nat), n ≤ 5 ∧ w.1 0 4 = nI n ∧ v.1 0 3 = nI n ∧ (∀ i, i < 5 → 2 ≤ p i ∧ p i ≤ 6 ∧ w.1 9 i = nI (p i)) ∧ (∀ i j, i < 5 → j < 5 → p i = p j → i = j) ∧ ∀ i, i < n → RC w (10 + 4 * p i) = RP v i ∧ VR (RP v i)
def Sim (w v : Wd) : Prop := RC w 10 = RM v ∧ VR (RM v) ∧ CK w ∧ (w.1 0 6 = v.1 4 0 ∧ w.1 0 7 = v.1 4 1 ∧ w.1 0 8 = v.1 4 2) ∧ TX w v ∧ KP w v
def Ag {τ : Type} (c m : Option (τ × Wd)) : Prop := ∃ (r : τ) (w v : Wd), c = some (r, w) ∧ m = some (r, v) ∧ Sim w v
def FrM (v u : Wd) : Prop := u.1 1 = v.1 1 ∧ u.1 3 = v.1 3 ∧ u.1 4 = v.1 4 ∧ u.1 5 = v.1 5 ∧ u.1 0 3 = v.1 0 3 ∧ u.1 0 6 = v.1 0 6
theorem FrM.rf (v : Wd) : FrM v v := ⟨rfl, rfl, rfl, rfl, rfl, rfl⟩
theorem FrM.tr {a b c : Wd} (h1 : FrM a b) (h2 : FrM b c) : FrM a c := ⟨h2.1.trans h1.1, h2.2.1.trans h1.2.1, h2.2.2.1.trans h1.2.2.1, h2.2.2.2.1.trans h1.2.2.2.1, h2.2.2.2.2.1.trans h1.2.2.2.2.1, h2.2.2.2.2.2.trans h1.2.2.2.2.2⟩
theorem FrM.F {w v : Wd} (h : FrF w v) : FrM w v := ⟨h.1 1 (by decide) (by decide), h.1 3 (by decide) (by decide), h.1 4 (by decide) (by decide), h.1 5 (by decide) (by decide), h.2.1 3 (by decide), h.2.1 6 (by decide)⟩
theorem FrM.L {w v : Wd} (h : FrL w v) : FrM w v := FrM.F (FrF.L h)
theorem FrM_RM {w v : Wd} (h : FrM w v) : RM v = RM w := by
  funext k
  unfold RM
  rw [h.1]
theorem FrC_RCb {w v : Wd} (h : FrC w v) {b : Nat} (hb : 6 ≤ b) : RC v b = RC w b := by
  funext k
  unfold RC
  rw [h.1 b (by omega), h.1 (b + 1) (by omega), h.1 (b + 2) (by omega), h.1 (b + 3) (by omega)]
theorem Sim_fr {w v w' v' : Wd} (h : Sim w v) (hC : FrC w w') (hk : CK w') (hM : FrM v v') : Sim w' v' := by
  obtain ⟨h1, h2, -, h3, ⟨n, t1, t2, t3, t4⟩, m, p, k1, k2, k3, k4, k5, k6⟩ := h
  have e0 := hC.1 0 (by omega)
  have e6 := hC.1 6 (by omega)
  have e7 := hC.1 7 (by omega)
  have e9 := hC.1 9 (by omega)
  refine ⟨?_, ?_, hk, ?_, ⟨n, t1, ?_, ?_, fun k hk => ?_⟩, m, p, k1, ?_, ?_, fun i hi => ?_, k5, fun i hi => ?_⟩
  · rw [FrC_RC hC, FrM_RM hM]; exact h1
  · rw [FrM_RM hM]; exact h2
  · rw [e0, hM.2.2.1]; exact h3
  · rw [e6]; exact t2
  · rw [hM.2.2.2.2.2]; exact t3
  · rw [e7, hM.2.2.2.1]; exact t4 k hk
  · rw [e0]; exact k2
  · rw [hM.2.2.2.2.1]; exact k3
  · rw [e9]; exact k4 i hi
  · have ep : RP v' i = RP v i := by funext k; unfold RP; rw [hM.2.1]
    rw [FrC_RCb hC (by omega), ep]
    exact k6 i hi
theorem Ag_q {τ : Type} {w v w' v' : Wd} {c m : Option (τ × Wd)} (h : Sim w v) (r : τ) (ec : c = some (r, w')) (em : m = some (r, v')) (hC : FrC w w') (hk : CK w') (hM : FrM v v') : Ag c m := ⟨r, w', v', ec, em, Sim_fr h hC hk hM⟩
theorem Ag_same {τ : Type} {w v : Wd} {c m : Option (τ × Wd)} (h : Sim w v) (r : τ) (ec : c = some (r, w)) (em : m = some (r, v)) : Ag c m := ⟨r, w, v, ec, em, h⟩
/-! refusals -/
theorem RC_ws {w : Wd} {c k b : Nat} (x : Int32) (h : c < b ∨ b + 3 < c) : RC (wset w c k x) b = RC w b := by
  funext j
  unfold RC
  rw [ws_c _ _ (by omega), ws_c _ _ (by omega), ws_c _ _ (by omega), ws_c _ _ (by omega)]
theorem CK_ws {w : Wd} {c k : Nat} (x : Int32) (h : CK w) (hc : c = 0 ∨ (6 ≤ c ∧ c < 10)) : CK (wset w c k x) := by
  intro j hj
  unfold ckS
  rw [RC_ws x (by omega), ws_c _ _ (by omega), ws_c _ _ (by omega), ws_c _ _ (by omega)]
  exact h j hj
theorem Sim_ref {w v : Wd} (h : Sim w v) (i : Nat) (hi : i < 3) : Sim (wset w 0 (6 + i) (w.1 0 (6 + i) + 1)) (wset v 4 i (v.1 4 i + 1)) := by
  obtain ⟨h1, h2, hk, ⟨a0, a1, a2⟩, ⟨n, t1, t2, t3, t4⟩, m, p, k1, k2, k3, k4, k5, k6⟩ := h
  have eM : RM (wset v 4 i (v.1 4 i + 1)) = RM v := by funext k; unfold RM; rw [ws_c _ _ (by decide)]
  refine ⟨?_, ?_, CK_ws _ hk (by omega), ?_, ⟨n, t1, ?_, ?_, fun k hk => ?_⟩, m, p, k1, ?_, ?_, fun i hi => ?_, k5, fun j hj => ?_⟩
  · rw [RC_ws _ (by omega), eM]; exact h1
  · rw [eM]; exact h2
  · rcases (by omega : i = 0 ∨ i = 1 ∨ i = 2) with rfl | rfl | rfl
    · simp [ws_at, a0, a1, a2]
    · simp [ws_at, a0, a1, a2]
    · simp [ws_at, a0, a1, a2]
  · rw [ws_c _ _ (by decide)]; exact t2
  · rw [ws_c _ _ (by decide)]; exact t3
  · rw [ws_c _ _ (by decide), ws_c _ _ (by decide)]; exact t4 k hk
  · rw [ws_k _ _ (by omega)]; exact k2
  · rw [ws_c _ _ (by decide)]; exact k3
  · rw [ws_c _ _ (by decide)]; exact k4 i hi
  · have ep : RP (wset v 4 i (v.1 4 i + 1)) j = RP v j := by funext k; unfold RP; rw [ws_c _ _ (by decide)]
    rw [RC_ws _ (by omega), ep]
    exact k6 j hj
theorem c_ref0 (w : Wd) : f_X5_refuse (-10002) w = some (-10002, wset w 0 6 (w.1 0 6 + 1)) := by
  unfold f_X5_refuse f_X5_refuse_b50
  rw [if_pos rfl]
  rfl
theorem c_ref1 (w : Wd) : f_X5_refuse (-10003) w = some (-10003, wset w 0 7 (w.1 0 7 + 1)) := by
  unfold f_X5_refuse f_X5_refuse_b50
  rw [if_neg (by decide), if_pos rfl]
  rfl
theorem c_ref2 (w : Wd) : f_X5_refuse (-10004) w = some (-10004, wset w 0 8 (w.1 0 8 + 1)) := by
  unfold f_X5_refuse f_X5_refuse_b50
  rw [if_neg (by decide), if_neg (by decide)]
  rfl
theorem m_bad (v : Wd) : f_X6_bad v = some (-10002, wset v 4 0 (v.1 4 0 + 1)) := by
  unfold f_X6_bad
  rw [if_pos (by decide), if_pos (by decide)]
  rfl
theorem m_no (v : Wd) : f_X6_no v = some (-10003, wset v 4 1 (v.1 4 1 + 1)) := by
  unfold f_X6_no
  rw [if_pos (by decide), if_pos (by decide)]
  rfl
theorem Ag_bad {w v : Wd} {c m : Option (Int32 × Wd)} (h : Sim w v) (ec : c = f_X5_refuse (-10002) w) (em : m = f_X6_bad v) : Ag c m := ⟨_, _, _, ec.trans (c_ref0 w), em.trans (m_bad v), Sim_ref h 0 (by omega)⟩
theorem Ag_no {w v : Wd} {c m : Option (Int32 × Wd)} (h : Sim w v) (ec : c = f_X5_refuse (-10003) w) (em : m = f_X6_no v) : Ag c m := ⟨_, _, _, ec.trans (c_ref1 w), em.trans (m_no v), Sim_ref h 1 (by omega)⟩
theorem bd {τ : Type} (o : Option (τ × Wd)) : o.bind (fun z => some (z.1, z.2)) = o := by cases o <;> rfl
theorem Sim_VC {w v : Wd} (h : Sim w v) : VR (RC w 10) := by rw [h.1]; exact h.2.1
/-- a place of the class: by the cell's number, or none -/
theorem c_pl {w : Wd} (hv : VR (RC w 10)) (e x y : Int32) : (okC (RC w 10) e x y ∧ f_X4_place e x y w = some (nI (cNo e x y)) ∧ cNo e x y < 32) ∨ (¬ okC (RC w 10) e x y ∧ f_X4_place e x y w = some (-1)) := by
  by_cases h : okC (RC w 10) e x y
  · exact .inl ⟨h, c_placeC hv h⟩
  · exact .inr ⟨h, c_placeN h⟩
theorem nlt0 {n : Nat} (h : n < 2 ^ 31) : ¬ nI n < 0 := fun q => by
  have := nI_pos' h
  exact absurd q (Int32.not_lt.mpr this)
/-! the methods that read a rate -/
theorem rate_c {w v : Wd} (h : Sim w v) (e x y k : Int32) : (∃ (c kn : Nat), c = cNo e x y ∧ kn < 3 ∧ k = nI kn ∧ okC (RM v) e x y ∧ f_X4_place e x y w = some (nI c) ∧ c < 32 ∧ f_X6_isRate e x y k v = some 1 ∧ f_X6_cellPlace e x y = some (nI (pos c)) ∧ f_X5_within k 0 2 = some 1) ∨ (f_X6_isRate e x y k v = some 0 ∧ (f_X4_place e x y w = some (-1) ∨ (∃ c, c < 32 ∧ f_X4_place e x y w = some (nI c) ∧ f_X5_within k 0 2 = some 0))) := by
  have hv := h.2.1
  have hr := h.1
  rw [m_isRate]
  rcases c_pl (Sim_VC h) e x y with ⟨hok, hp, hc⟩ | ⟨hok, hp⟩
  · rw [hr] at hok
    by_cases hk : (0 : Int32) ≤ k ∧ k ≤ 2
    · obtain ⟨kn, hkn, ek⟩ := of_range hk.1 hk.2 (by omega)
      exact .inl ⟨_, kn, rfl, by omega, ek, hok, hp, hc, by rw [if_pos ⟨hok, hk⟩], (m_placeC hv hok).1, w_t hk.1 hk.2⟩
    · exact .inr ⟨by rw [if_neg (fun q => hk q.2)], .inr ⟨_, hc, hp, w_f hk⟩⟩
  · rw [hr] at hok
    exact .inr ⟨by rw [if_neg (fun q => hok q.1)], .inl hp⟩
theorem cell_c {w v : Wd} (h : Sim w v) (e x y : Int32) : (∃ (c : Nat), c = cNo e x y ∧ okC (RM v) e x y ∧ f_X4_place e x y w = some (nI c) ∧ c < 32 ∧ f_X6_isCell e x y v = some 1 ∧ f_X6_cellPlace e x y = some (nI (pos c))) ∨ (f_X6_isCell e x y v = some 0 ∧ f_X4_place e x y w = some (-1) ∧ ¬ okC (RM v) e x y) := by
  have hv := h.2.1
  have hr := h.1
  rw [m_isCell]
  rcases c_pl (Sim_VC h) e x y with ⟨hok, hp, hc⟩ | ⟨hok, hp⟩
  · rw [hr] at hok
    exact .inl ⟨_, rfl, hok, hp, hc, by rw [if_pos hok], (m_placeC hv hok).1⟩
  · rw [hr] at hok
    exact .inr ⟨by rw [if_neg hok], hp, hok⟩
theorem rng_c (i : Int32) (N : Nat) (hN : (OfNat.ofNat N : Nat) < 2 ^ 31) : (∃ n, n ≤ (OfNat.ofNat N : Nat) ∧ i = nI n ∧ f_X5_within i 0 (OfNat.ofNat N) = some 1 ∧ f_X6_in i 0 (OfNat.ofNat N) = some 1) ∨ (f_X5_within i 0 (OfNat.ofNat N) = some 0 ∧ f_X6_in i 0 (OfNat.ofNat N) = some 0) := by
  by_cases hi : (0 : Int32) ≤ i ∧ i ≤ (OfNat.ofNat N : Int32)
  · obtain ⟨n, hn, en⟩ := of_range hi.1 hi.2 hN
    exact .inl ⟨n, hn, en, w_t hi.1 hi.2, in_t hi.1 hi.2⟩
  · exact .inr ⟨w_f hi, in_f hi⟩
theorem one0 : ¬ (1 : Int32) = 0 := by decide
theorem m1lt : (-1 : Int32) < 0 := by decide
theorem pos_b {c k : Nat} (hc : c < 32) (hk : k < 12) : pos c + k < 395 := by unfold pos; omega
theorem s_raw {w v : Wd} (h : Sim w v) (e x y k i : Int32) : Ag (f_X5_raw e x y k i w) (f_X6_raw e x y k i v) := by
  have hv := h.2.1
  have hr := h.1
  unfold f_X5_raw f_X6_raw f_X5_raw_b37 f_X6_raw_b44 f_X6_raw_b48
  simp only [bd]
  rcases rate_c h e x y k with ⟨c, kn, ec, hk, rfl, hok, hp, hc, e1, e2, e3⟩ | ⟨e1, hp | ⟨c, hc, hp, e3⟩⟩
  · rw [hp, e1, bind_s, bind_s, if_neg (nlt0 (by omega)), e3, bind_s, if_neg one0, if_neg one0]
    rcases rng_c i 3 (by decide) with ⟨n, hn, rfl, e4, e5⟩ | ⟨e4, e5⟩
    · have hn' : n ≤ 3 := hn
      rw [e4, e5, bind_s, bind_s, if_neg one0, if_neg one0, e2, bind_s, c_sample hc hk (by omega), bind_s, hr]
      refine Ag_same h _ rfl ?_
      rw [a_lm, nI_add, nI_add, if_pos (i_n (by unfold pos; omega) (by omega)), n_cl (by unfold pos; omega), RM_at (by unfold pos; omega)]
    · rw [e4, e5, bind_s, bind_s, if_pos rfl, if_pos rfl]
      exact Ag_bad h rfl rfl
  · rw [hp, e1, bind_s, bind_s, if_pos m1lt, if_pos rfl]
    exact Ag_bad h rfl rfl
  · rw [hp, e1, bind_s, bind_s, if_neg (nlt0 (by omega)), e3, bind_s, if_pos rfl, if_pos rfl]
    exact Ag_bad h rfl rfl
theorem s_of {w v : Wd} (h : Sim w v) (e x y k i : Int32) : Ag (f_X5_of e x y k i w) (f_X6_of e x y k i v) := by
  have hv := h.2.1
  have hr := h.1
  unfold f_X5_of f_X6_of f_X5_of_b37 f_X6_of_b22 f_X6_of_b119
  simp only [bd]
  rcases rate_c h e x y k with ⟨c, kn, ec, hk, rfl, hok, hp, hc, e1, e2, e3⟩ | ⟨e1, hp | ⟨c, hc, hp, e3⟩⟩
  · rw [hp, e1, bind_s, bind_s, if_neg (nlt0 (by omega)), e3, bind_s, if_neg one0, if_neg one0]
    rcases rng_c i 3 (by decide) with ⟨n, hn, rfl, e4, e5⟩ | ⟨e4, e5⟩
    · have hn' : n ≤ 3 := hn
      rw [e4, e5, bind_s, bind_s, if_neg one0, if_neg one0, e2, bind_s]
      have hw := VR_w hv hk
      have dx := dif_X hv hc hk
      have dy := dif_Y hv hc hk
      have hw0 : ¬ RM v (2 + kn) = 0 := by rw [hw.1]; exact fun q => by have := (c_eq0 (by omega)).mp q; omega
      have hw1 : (1 : Int32) ≤ RM v (2 + kn) := by rw [hw.1]; exact (c_lle (by omega) (by omega)).mpr (by omega)
      have hpb : pos c + 4 * kn + 3 < 395 := by unfold pos; omega
      rw [jlet_eq, a_lm, nI_add, a_la, n_cl (by omega), n_cl (by omega), RM_at (by omega), RC_w10 hk]
      simp only [c_X hc hk, c_Y hc hk, c_size, bind_s, hr, m_X hpb, m_Y hpb, m_S hpb, c_Res hw1, m_Res hpb hw0]
      rw [if_pos (i_n (by omega) (by omega)), if_pos (i_n (by omega) (by omega))]
      have e0 : (sS (RM v) (pos c + 4 * kn) = 0) ↔ (sX (RM v) (pos c + 4 * kn) = 0 ∧ sY (RM v) (pos c + 4 * kn) = 0) := xy0 dx dy
      rcases (by omega : n = 0 ∨ n = 1 ∨ n = 2 ∨ n = 3) with rfl | rfl | rfl | rfl
      · exact Ag_same h _ rfl rfl
      · exact Ag_same h _ rfl rfl
      · exact Ag_same h _ rfl rfl
      · by_cases z : sS (RM v) (pos c + 4 * kn) = 0
        · rw [if_pos (e0.mp z), if_pos z]
          exact Ag_same h _ rfl rfl
        · rw [if_neg (fun q => z (e0.mpr q)), if_neg z]
          exact Ag_same h _ rfl rfl
    · rw [e4, e5, bind_s, bind_s, if_pos rfl, if_pos rfl]
      exact Ag_bad h rfl rfl
  · rw [hp, e1, bind_s, bind_s, if_pos m1lt, if_pos rfl]
    exact Ag_bad h rfl rfl
  · rw [hp, e1, bind_s, bind_s, if_neg (nlt0 (by omega)), e3, bind_s, if_pos rfl, if_pos rfl]
    exact Ag_bad h rfl rfl
theorem s_away {w v : Wd} (h : Sim w v) (e x y k i : Int32) : Ag (f_X5_away e x y k i w) (f_X6_away e x y k i v) := by
  have hv := h.2.1
  have hr := h.1
  unfold f_X5_away f_X6_away f_X5_away_b39 f_X6_away_b24 f_X6_away_b84
  simp only [bd]
  rcases rate_c h e x y k with ⟨c, kn, ec, hk, rfl, hok, hp, hc, e1, e2, e3⟩ | ⟨e1, hp | ⟨c, hc, hp, e3⟩⟩
  · rw [hp, e1, bind_s, bind_s, if_neg (nlt0 (by omega)), e3, bind_s, if_neg one0, if_neg one0]
    rcases rng_c i 9999 (by decide) with ⟨n, hn, rfl, e4, e5⟩ | ⟨e4, e5⟩
    · have hn' : n ≤ 9999 := hn
      rw [e4, e5, bind_s, bind_s, if_neg one0, if_neg one0, e2, bind_s]
      have hw := VR_w hv hk
      have dx := dif_X hv hc hk
      have dy := dif_Y hv hc hk
      have hw0 : ¬ RM v (2 + kn) = 0 := by rw [hw.1]; exact fun q => by have := (c_eq0 (by omega)).mp q; omega
      have hw1 : (1 : Int32) ≤ RM v (2 + kn) := by rw [hw.1]; exact (c_lle (by omega) (by omega)).mpr (by omega)
      have hpb : pos c + 4 * kn + 3 < 395 := by unfold pos; omega
      have hrs := rs_lt hv (c := c) hk
      have hrn := rs_ne hv (c := c) hk
      rw [jlet_eq, jlet_eq, a_lm, nI_add, a_la, n_cl (by omega), n_cl (by omega), RM_at (by omega), RC_w10 hk]
      simp only [c_X hc hk, c_Y hc hk, bind_s, hr, m_S hpb, c_Res hw1, m_Res hpb hw0]
      rw [if_pos (i_n (by omega) (by omega)), if_pos (i_n (by omega) (by omega)), if_pos (i_n (by omega) (by omega))]
      have e0 : (sS (RM v) (pos c + 4 * kn) = 0) ↔ (sX (RM v) (pos c + 4 * kn) = 0 ∧ sY (RM v) (pos c + 4 * kn) = 0) := xy0 dx dy
      by_cases z : sS (RM v) (pos c + 4 * kn) = 0
      · rw [if_pos (e0.mp z), if_pos z, if_pos rfl]
        exact Ag_no h rfl rfl
      · rw [if_neg (fun q => z (e0.mpr q)), if_neg z]
        rw [show sRes (sX (RM v) (pos c + 4 * kn)) (sY (RM v) (pos c + 4 * kn)) (RM v (2 + kn)) = rsS (RM v) c kn from rfl, if_neg hrn]
        have a1 := c_away (d := n) (n := tn (RM v (2 + kn))) (r := rsS (RM v) c kn) (by omega) (by omega) (by omega) hrs
        have a2 := m_awayN (d := n) (n := tn (RM v (2 + kn))) (r := rsS (RM v) c kn) (by omega) (by omega) (by omega) hrs
        rw [← hw.1] at a1 a2
        rw [a1, a2]
        exact Ag_same h _ rfl rfl
    · rw [e4, e5, bind_s, bind_s, if_pos rfl, if_pos rfl]
      exact Ag_bad h rfl rfl
  · rw [hp, e1, bind_s, bind_s, if_pos m1lt, if_pos rfl]
    exact Ag_bad h rfl rfl
  · rw [hp, e1, bind_s, bind_s, if_neg (nlt0 (by omega)), e3, bind_s, if_pos rfl, if_pos rfl]
    exact Ag_bad h rfl rfl
