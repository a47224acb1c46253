/-! ALL CELLS: loops over rows and columns -/
theorem loop2 {σ τ : Type} (Lo : Nat → σ → Int32 → Option τ) (Li : (σ → Int32 → Option τ) → Int32 → Nat → σ → Int32 → Option τ) (fin : σ → Option τ) (W H : Nat) (Inv : Nat → Nat → σ → Prop) (hW : W < 1000) (hH : H < 1000)
    (ho : ∀ n y s, y < H → Inv y 0 s → Lo (n + 1) s (nI y) = Li (Lo n) (nI y) FUEL s 0)
    (he : ∀ n s, Inv H 0 s → Lo (n + 1) s (nI H) = fin s)
    (hi : ∀ k n y x s, y < H → x < W → Inv y x s → ∃ s', Inv y (x + 1) s' ∧ Li k (nI y) (n + 1) s (nI x) = Li k (nI y) n s' (nI (x + 1)))
    (hie : ∀ k n y s, y < H → Inv y W s → Inv (y + 1) 0 s ∧ Li k (nI y) (n + 1) s (nI W) = k s (nI (y + 1)))
    (s : σ) (h0 : Inv 0 0 s) : ∃ s', Lo FUEL s 0 = fin s' ∧ Inv H 0 s' := by
  refine loopG Lo fin H (fun y s => Inv y 0 s) (by omega) he (fun m y s hy hI => ?_) s h0
  obtain ⟨s1, a1, a2⟩ := loopG (fun n s x => Li (Lo m) (nI y) n s x) (fun s => Lo m s (nI (y + 1))) W (fun x s => Inv y x s) (by omega) (fun n s hs => (hie (Lo m) n y s hy hs).2) (fun n x s hx hs => hi (Lo m) n y x s hy hx hs) s hI
  exact ⟨s1, (hie (Lo m) 0 y s1 hy a2).1, by rw [ho m y s hy hI]; exact a1⟩
/-- the number of a cell, by its place in the order of rows -/
def lin (W : Nat) (g : Nat → Nat → Bool) (i : Nat) : Bool := g (i / W) (i % W)
theorem lin_at {W y x : Nat} (g : Nat → Nat → Bool) (hx : x < W) : lin W g (y * W + x) = g y x := by
  unfold lin
  rw [Nat.mul_comm, Nat.mul_add_div (by omega), Nat.mul_add_mod, Nat.mod_eq_of_lt hx, Nat.div_eq_of_lt hx, Nat.add_zero]
theorem lin_e (W y : Nat) : y * W + W = (y + 1) * W + 0 := by rw [Nat.add_mul, Nat.one_mul, Nat.add_zero]
theorem VR_0 {r : Row} (hv : VR r) : r 0 = nI (tn (r 0)) ∧ 1 ≤ tn (r 0) ∧ tn (r 0) ≤ 4 := rg_n hv.1 (by omega)
theorem VR_1 {r : Row} (hv : VR r) : r 1 = nI (tn (r 1)) ∧ 1 ≤ tn (r 1) ∧ tn (r 1) ≤ 4 := rg_n hv.2.1 (by omega)
theorem okC_of {r : Row} (hv : VR r) {e x y : Nat} (he : e < 2) (hx : x < tn (r 0)) (hy : y < tn (r 1)) : okC r (nI e) (nI x) (nI y) := by
  have a0 := VR_0 hv
  have a1 := VR_1 hv
  refine ⟨⟨nI_pos' (by omega), (c_lel (by decide) (by omega)).mpr (show e ≤ 1 by omega)⟩, ⟨nI_pos' (by omega), ?_⟩, nI_pos' (by omega), ?_⟩
  · rw [a0.1, a_sl (by omega), c_le (by omega) (by omega)]; omega
  · rw [a1.1, a_sl (by omega), c_le (by omega) (by omega)]; omega
def FrA (w v : Wd) : Prop := (∀ c, c ≠ 0 → (c < 6 ∨ 10 < c) → v.1 c = w.1 c) ∧ (∀ k, (k < 7 ∨ 13 < k) → v.1 0 k = w.1 0 k) ∧ v.2 = w.2
theorem FrA.rf (w : Wd) : FrA w w := ⟨fun _ _ _ => rfl, fun _ _ => rfl, rfl⟩
theorem FrA.tr {a b c : Wd} (h1 : FrA a b) (h2 : FrA b c) : FrA a c := ⟨fun k q1 q2 => (h2.1 k q1 q2).trans (h1.1 k q1 q2), fun k q => (h2.2.1 k q).trans (h1.2.1 k q), h2.2.2.trans h1.2.2⟩
theorem FrA.L {w v : Wd} (h : FrL w v) : FrA w v := ⟨fun c q1 q2 => h.1 c q1 (by omega), fun k q => h.2.1 k q, h.2.2⟩
theorem FrA.s {w v : Wd} (h : FrA w v) {c : Nat} (k : Nat) (x : Int32) (h1 : 7 ≤ c ∧ c ≤ 10) : FrA w (wset v c k x) := ⟨fun a q1 q2 => by rw [ws_c _ _ (by omega)]; exact h.1 a q1 q2, fun j q => by rw [ws_c _ _ (by omega)]; exact h.2.1 j q, h.2.2⟩
theorem FrA_RM {w v : Wd} (h : FrA w v) : RM v = RM w := by
  funext k
  unfold RM
  rw [h.1 1 (by decide) (by decide)]
theorem FrM.A {w v : Wd} (h : FrA w v) : FrM w v := ⟨h.1 1 (by decide) (by decide), h.1 3 (by decide) (by decide), h.1 4 (by decide) (by decide), h.1 5 (by decide) (by decide), h.2.1 3 (by decide), h.2.1 6 (by decide)⟩
def alAt (v : Wd) (j : Nat) (q : Nat × Option Nat × Option Nat × Option Nat) : Prop := v.1 7 j = nI q.1 ∧ v.1 8 j = enc q.2.1 ∧ v.1 9 j = enc q.2.2.1 ∧ v.1 10 j = enc q.2.2.2
def alA (v : Wd) (r : Row) (e : Nat) : Prop := ∀ y x, y < tn (r 1) → x < tn (r 0) → alAt v (4 * y + x) (lkS r (16 * e + 4 * y + x))
theorem m_all {v : Wd} (hv : VR (RM v)) {e : Nat} (he : e < 2) : ∃ v' : Wd, f_X6_looksAtAll (nI e) v = some v' ∧ FrA v v' ∧ alA v' (RM v) e := by
  have a0 := VR_0 hv
  have a1 := VR_1 hv
  unfold f_X6_looksAtAll
  obtain ⟨v', b1, b2, b3⟩ := loop2 (fun n (s : Wd) y => f_X6_looksAtAll_b2 (nI e) n y s) (fun k y n (s : Wd) x => f_X6_looksAtAll_b14 (nI e) y (fun i w => k w i) n x s) (fun s => some s) (tn (RM v 0)) (tn (RM v 1))
    (fun y x s => FrA v s ∧ ∀ y' x', y' < tn (RM v 1) → x' < tn (RM v 0) → (y' < y ∨ (y' = y ∧ x' < x)) → alAt s (4 * y' + x') (lkS (RM v) (16 * e + 4 * y' + x'))) (by omega) (by omega)
    (fun n y s hy hI => by
      show f_X6_looksAtAll_b2 (nI e) (n + 1) (nI y) s = f_X6_looksAtAll_b14 (nI e) (nI y) (f_X6_looksAtAll_b2 (nI e) n) FUEL 0 s
      rw [f_X6_looksAtAll_b2, if_pos (by decide), show ((1 : Int32).toNatClampNeg) = 1 from rfl, RM_at (by omega), FrA_RM hI.1, a1.1, if_neg (fun q => by have := (c_le (by omega) (by omega)).mp q; omega)])
    (fun n s hI => by
      show f_X6_looksAtAll_b2 (nI e) (n + 1) (nI (tn (RM v 1))) s = _
      rw [f_X6_looksAtAll_b2, if_pos (by decide), show ((1 : Int32).toNatClampNeg) = 1 from rfl, RM_at (by omega), FrA_RM hI.1, ← a1.1, if_pos (Int32.le_refl _)])
    (fun k n y x s hy hx hI => by
      have eR := FrA_RM hI.1
      obtain ⟨s1, l1, l2, l3⟩ := m_looks (w := s) (c := 16 * e + 4 * y + x) (by rw [eR]; exact hv) (by omega)
      rw [eR] at l3
      refine ⟨wset (wset (wset (wset s1 7 (4 * y + x) (s1.1 0 7)) 8 (4 * y + x) (s1.1 0 8)) 9 (4 * y + x) (s1.1 0 9)) 10 (4 * y + x) (s1.1 0 10), ⟨((((hI.1.tr (FrA.L l2)).s _ _ (by omega)).s _ _ (by omega)).s _ _ (by omega)).s _ _ (by omega), fun y' x' hy' hx' ho => ?_⟩, ?_⟩
      · unfold alAt
        by_cases hh : y' = y ∧ x' = x
        · obtain ⟨rfl, rfl⟩ := hh
          simp only [ws_at, true_and, false_and, and_true, and_false, if_true, if_false]
          exact l3
        · have hne : 4 * y' + x' ≠ 4 * y + x := fun q => hh (by omega)
          have := hI.2 y' x' hy' hx' (by omega)
          rw [ws_c _ _ (by decide), ws_c _ _ (by decide), ws_c _ _ (by decide), ws_k _ _ (fun q => hne q.2), ws_c _ _ (by decide), ws_c (c := 9) _ _ (by decide), ws_k (c := 8) _ _ (fun q => hne q.2), ws_c (c := 7) _ _ (by decide), ws_c _ _ (by decide), ws_k (c := 9) _ _ (fun q => hne q.2), ws_c (c := 8) _ _ (by decide), ws_c (c := 7) _ _ (by decide), ws_k (c := 10) _ _ (fun q => hne q.2), ws_c (c := 9) _ _ (by decide), ws_c (c := 8) _ _ (by decide), ws_c (c := 7) _ _ (by decide), l2.1 7 (by decide) (by decide), l2.1 8 (by decide) (by decide), l2.1 9 (by decide) (by decide), l2.1 10 (by decide) (by decide)]
          exact this
      · show f_X6_looksAtAll_b14 (nI e) (nI y) _ (n + 1) (nI x) s = f_X6_looksAtAll_b14 (nI e) (nI y) _ n (nI (x + 1)) _
        rw [f_X6_looksAtAll_b14, if_pos (by decide), show ((0 : Int32).toNatClampNeg) = 0 from rfl, RM_at (by omega), eR, a0.1, if_neg (fun q => by have := (c_le (by omega) (by omega)).mp q; omega), m_place, bind_s, l1, bind_s, a_lm, nI_add, n_cl (by omega), a_al]
        simp only [i_n (show 4 * y + x < 16 by omega) (show 16 < 2 ^ 31 by omega), if_true, wput_eq]
        rw [ws_c (c := 7) _ _ (by decide), ws_c (c := 8) _ _ (by decide), ws_c (c := 7) _ _ (by decide), ws_c (c := 9) _ _ (by decide), ws_c (c := 8) _ _ (by decide), ws_c (c := 7) _ _ (by decide)])
    (fun k n y s hy hI => by
      refine ⟨⟨hI.1, fun y' x' hy' hx' ho => hI.2 y' x' hy' hx' (by omega)⟩, ?_⟩
      show f_X6_looksAtAll_b14 (nI e) (nI y) _ (n + 1) (nI (tn (RM v 0))) s = _
      rw [f_X6_looksAtAll_b14, if_pos (by decide), show ((0 : Int32).toNatClampNeg) = 0 from rfl, RM_at (by omega), FrA_RM hI.1, ← a0.1, if_pos (Int32.le_refl _), a_al])
    v ⟨FrA.rf v, fun y' x' _ _ ho => by omega⟩
  exact ⟨v', b1, b2, fun y x hy hx => b3 y x hy hx (.inl hy)⟩
