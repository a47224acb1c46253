/-! CHANGES of the row, on both sides -/
theorem loopE {σ τ : Type} (L : Nat → σ → Int32 → Option τ) (fin : σ → Option τ) (N : Nat) (Inv : Nat → σ → Prop)
    (hend : ∀ m s, Inv N s → L (m + 1) s (nI N) = fin s)
    (hstep : ∀ m j s, j < N → Inv j s → ∃ s', Inv (j + 1) s' ∧ L (m + 1) s (nI j) = L m s' (nI (j + 1))) :
    ∀ k m j s, j + k = N → k < m → Inv j s → ∃ s', L m s (nI j) = fin s' ∧ Inv N s' := by
  intro k
  induction k with
  | zero =>
    intro m j s hj hm hI
    cases m with
    | zero => omega
    | succ m =>
      have e : j = N := by omega
      subst e
      exact ⟨s, hend m s hI, hI⟩
  | succ k ih =>
    intro m j s hj hm hI
    cases m with
    | zero => omega
    | succ m =>
      obtain ⟨s1, h1, h2⟩ := hstep m j s (by omega) hI
      obtain ⟨s2, h3, h4⟩ := ih m (j + 1) s1 (by omega) (by omega) h1
      exact ⟨s2, h2.trans h3, h4⟩
theorem loopG {σ τ : Type} (L : Nat → σ → Int32 → Option τ) (fin : σ → Option τ) (N : Nat) (Inv : Nat → σ → Prop) (hN : N < 19000)
    (hend : ∀ m s, Inv N s → L (m + 1) s (nI N) = fin s)
    (hstep : ∀ m j s, j < N → Inv j s → ∃ s', Inv (j + 1) s' ∧ L (m + 1) s (nI j) = L m s' (nI (j + 1))) (s : σ) (h0 : Inv 0 s) : ∃ s', L FUEL s 0 = fin s' ∧ Inv N s' :=
  loopE L fin N Inv hend hstep N FUEL 0 s (by omega) (by unfold FUEL; omega) h0
def rset (r : Row) (k : Nat) (x : Int32) : Row := fun j => if j = k then x else r j
def PutC (w w' : Wd) : Prop := (∀ a, a < 10 ∨ 13 < a → w'.1 a = w.1 a) ∧ w'.2 = w.2
def PutM (v v' : Wd) : Prop := (∀ a, a ≠ 1 → v'.1 a = v.1 a) ∧ v'.2 = v.2
theorem PutC.rf (w : Wd) : PutC w w := ⟨fun _ _ => rfl, rfl⟩
theorem PutM.rf (w : Wd) : PutM w w := ⟨fun _ _ => rfl, rfl⟩
theorem PutC.tr {a b c : Wd} (h1 : PutC a b) (h2 : PutC b c) : PutC a c := ⟨fun k hk => (h2.1 k hk).trans (h1.1 k hk), h2.2.trans h1.2⟩
theorem PutM.tr {a b c : Wd} (h1 : PutM a b) (h2 : PutM b c) : PutM a c := ⟨fun k hk => (h2.1 k hk).trans (h1.1 k hk), h2.2.trans h1.2⟩
theorem PutC.s {w v : Wd} (h : PutC w v) {c : Nat} (k : Nat) (x : Int32) (h1 : 10 ≤ c ∧ c ≤ 13) : PutC w (wset v c k x) := ⟨fun a q => by rw [ws_c _ _ (by omega)]; exact h.1 a q, h.2⟩
theorem PutM.s {w v : Wd} (h : PutM w v) (k : Nat) (x : Int32) : PutM w (wset v 1 k x) := ⟨fun a q => by rw [ws_c _ _ q]; exact h.1 a q, h.2⟩
theorem RM_s {v : Wd} {k : Nat} (x : Int32) (hk : k < 395) : RM (wset v 1 k x) = rset (RM v) k x := by
  funext j
  simp only [RM, rset, ws_at, true_and, false_and, and_true, and_false, if_false, if_true]
  (repeat' split) <;> first | rfl | (exfalso; omega)
theorem RC_s0 {w : Wd} (x : Int32) : RC (wset w 10 0 x) 10 = rset (RC w 10) 0 x := by
  funext j
  simp only [RC, rset, ws_at, true_and, false_and, and_true, and_false, if_false, if_true]
  (repeat' split) <;> first | rfl | (exfalso; omega)
theorem RC_s1 {w : Wd} (x : Int32) : RC (wset w 10 1 x) 10 = rset (RC w 10) 1 x := by
  funext j
  simp only [RC, rset, ws_at, true_and, false_and, and_true, and_false, if_false, if_true]
  (repeat' split) <;> first | rfl | (exfalso; omega)
theorem RC_sw {w : Wd} {k : Nat} (x : Int32) (hk : k < 3) : RC (wset w 11 k x) 10 = rset (RC w 10) (2 + k) x := by
  funext j
  simp only [RC, rset, ws_at, true_and, false_and, and_true, and_false, if_false, if_true]
  (repeat' split) <;> first | rfl | (exfalso; omega)
theorem RC_ss {w : Wd} {k : Nat} (x : Int32) (hk : k < 6) : RC (wset w 12 k x) 10 = rset (RC w 10) (5 + k) x := by
  funext j
  simp only [RC, rset, ws_at, true_and, false_and, and_true, and_false, if_false, if_true]
  (repeat' split) <;> first | rfl | (exfalso; omega)
theorem RC_sm {w : Wd} {k : Nat} (x : Int32) (hk : k < 384) : RC (wset w 13 k x) 10 = rset (RC w 10) (11 + k) x := by
  funext j
  simp only [RC, rset, ws_at, true_and, false_and, and_true, and_false, if_false, if_true]
  (repeat' split) <;> first | rfl | (exfalso; omega)
/-- the change of both sides, alike -/
def Up (w v : Wd) (c m : Option (Int32 × Wd)) : Prop := ∃ (r : Int32) (w' v' : Wd), c = some (r, w') ∧ m = some (r, v') ∧ PutC w w' ∧ PutM v v' ∧ RC w' 10 = RM v' ∧ VR (RM v') ∧ (r = -10002 → w' = w ∧ v' = v)
theorem Up_bad {w v : Wd} {c m : Option (Int32 × Wd)} (hr : RC w 10 = RM v) (hv : VR (RM v)) (ec : c = some (-10002, w)) (em : m = some (-10002, v)) : Up w v c m := ⟨_, w, v, ec, em, PutC.rf w, PutM.rf v, hr, hv, fun _ => ⟨rfl, rfl⟩⟩
theorem nb {n : Nat} (h : n < 2 ^ 31) : ¬ nI n = -10002 := fun q => by
  have := congrArg Int32.toInt q
  rw [toI_n h] at this
  have e : (-10002 : Int32).toInt = -10002 := by decide
  omega
theorem rng_d (i : Int32) (a N : Nat) (ha : (OfNat.ofNat a : Nat) < 2 ^ 31) (hN : (OfNat.ofNat N : Nat) < 2 ^ 31) : (∃ n, (OfNat.ofNat a : Nat) ≤ n ∧ n ≤ (OfNat.ofNat N : Nat) ∧ i = nI n ∧ f_X5_within i (OfNat.ofNat a) (OfNat.ofNat N) = some 1 ∧ f_X6_in i (OfNat.ofNat a) (OfNat.ofNat N) = some 1) ∨ (f_X5_within i (OfNat.ofNat a) (OfNat.ofNat N) = some 0 ∧ f_X6_in i (OfNat.ofNat a) (OfNat.ofNat N) = some 0) := by
  by_cases hi : (OfNat.ofNat a : Int32) ≤ i ∧ i ≤ (OfNat.ofNat N : Int32)
  · have h0 : (0 : Int32) ≤ i := by
      have h1 := Int32.le_iff_toInt_le.mp hi.1
      have h2 : (OfNat.ofNat a : Int32).toInt = ((OfNat.ofNat a : Nat) : Int) := toI_n ha
      rw [h2] at h1
      exact Int32.le_iff_toInt_le.mpr (Int.le_trans (Int.natCast_nonneg _) h1)
    obtain ⟨n, hn, rfl⟩ := of_range h0 hi.2 hN
    exact .inl ⟨n, (c_lle ha (by omega)).mp hi.1, hn, rfl, w_t hi.1 hi.2, in_t hi.1 hi.2⟩
  · exact .inr ⟨w_f hi, in_f hi⟩
theorem VR_i {r : Row} (hv : VR r) {k : Nat} (hk : k < 395) : ∃ n : Nat, n ≤ 9999 ∧ r k = nI n := by
  obtain ⟨h0, h1, hw, h5, h6, h7, h8, h9, h10, hm⟩ := hv
  have g : ∀ {x : Int32} {a b : Nat}, rg x a b → b ≤ 9999 → ∃ n : Nat, n ≤ 9999 ∧ x = nI n := fun h hb => by
    obtain ⟨n, _, h2, h3⟩ := h
    exact ⟨n, by omega, h3⟩
  rcases (by omega : k = 0 ∨ k = 1 ∨ (2 ≤ k ∧ k < 5) ∨ k = 5 ∨ k = 6 ∨ k = 7 ∨ k = 8 ∨ k = 9 ∨ k = 10 ∨ 11 ≤ k) with h | h | h | h | h | h | h | h | h | h
  · subst h; exact g h0 (by omega)
  · subst h; exact g h1 (by omega)
  · have := hw (k - 2) (by omega); rw [show 2 + (k - 2) = k by omega] at this; exact g this (by omega)
  · subst h; exact g h5 (by omega)
  · subst h; exact g h6 (by omega)
  · subst h; exact g h7 (by omega)
  · subst h; exact g h8 (by omega)
  · subst h; exact g h9 (by omega)
  · subst h; exact g h10 (by omega)
  · have := hm (k - 11) (by omega); rw [show 11 + (k - 11) = k by omega] at this; exact g this (by omega)
theorem u_wave {w v : Wd} (hr : RC w 10 = RM v) (hv : VR (RM v)) (k x : Int32) : Up w v (f_X4_putWave k x w) (f_X6_putWave k x v) := by
  unfold f_X4_putWave f_X6_putWave f_X4_putWave_b21 f_X6_putWave_b21
  rcases rng_c k 2 (by decide) with ⟨n, hn, rfl, e4, e5⟩ | ⟨e4, e5⟩
  · have hn' : n ≤ 2 := hn
    rw [e4, e5, bind_s, bind_s, if_neg one0, if_neg one0]
    rcases rng_d x 10 2000 (by decide) (by decide) with ⟨m, hm1, hm2, rfl, e6, e7⟩ | ⟨e6, e7⟩
    · have hm1' : 10 ≤ m := hm1
      have hm2' : m ≤ 2000 := hm2
      rw [e6, e7, bind_s, bind_s, if_neg one0, if_neg one0, a_la]
      simp only [jlet_eq, wput_eq]
      rw [if_pos (i_n (by omega) (by omega)), if_pos (i_n (by omega) (by omega)), if_pos (i_n (by omega) (by omega)), if_pos (i_n (by omega) (by omega)), n_cl (by omega), n_cl (by omega), RC_w10 (by omega), hr, RM_at (by omega)]
      obtain ⟨q, hq, eq⟩ := VR_i hv (k := 2 + n) (by omega)
      refine ⟨_, _, _, rfl, rfl, (PutC.rf w).s _ _ (by omega), (PutM.rf v).s _ _, ?_, ?_, fun z => absurd (eq ▸ z) (nb (by omega))⟩
      · rw [RC_sw _ (by omega), RM_s _ (by omega), hr]
      · rw [RM_s _ (by omega)]
        obtain ⟨h0, h1, hw, hrest⟩ := hv
        unfold VR rset
        refine ⟨by rw [if_neg (by omega)]; exact h0, by rw [if_neg (by omega)]; exact h1, fun j hj => ?_, ?_⟩
        · by_cases z : 2 + j = 2 + n
          · rw [if_pos z]; exact ⟨m, by omega, by omega, rfl⟩
          · rw [if_neg z]; exact hw j hj
        · obtain ⟨h5, h6, h7, h8, h9, h10, hm⟩ := hrest
          exact ⟨by rw [if_neg (by omega)]; exact h5, by rw [if_neg (by omega)]; exact h6, by rw [if_neg (by omega)]; exact h7, by rw [if_neg (by omega)]; exact h8, by rw [if_neg (by omega)]; exact h9, by rw [if_neg (by omega)]; exact h10, fun j hj => by rw [if_neg (by omega)]; exact hm j hj⟩
    · rw [e6, e7, bind_s, bind_s, if_pos rfl, if_pos rfl]
      exact Up_bad hr hv rfl rfl
  · rw [e4, e5, bind_s, bind_s, if_pos rfl, if_pos rfl]
    exact Up_bad hr hv rfl rfl
