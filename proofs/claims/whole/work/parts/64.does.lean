/-! ORDERS DONE -/
theorem Sim_rd {w v w' v' : Wd} (h : Sim w v) (hC : CF w w') (hM : MF v v') : Sim w' v' := by
  obtain ⟨h1, h2, hk, h3, ⟨n, t1, t2, t3, t4⟩, m, p, k1, k2, k3, k4, k5, k6⟩ := h
  have eC : ∀ b, 10 ≤ b → RC w' b = RC w b := fun b hb => by funext k; unfold RC; rw [hC.1 b (by omega) (by omega), hC.1 (b + 1) (by omega) (by omega), hC.1 (b + 2) (by omega) (by omega), hC.1 (b + 3) (by omega) (by omega)]
  have eM : RM v' = RM v := by funext k; unfold RM; rw [hM.1 1 (by decide) (by decide) (by decide)]
  refine ⟨?_, ?_, fun c hc => ?_, ?_, ⟨n, t1, ?_, ?_, fun k hk => ?_⟩, m, p, k1, ?_, ?_, fun i hi => ?_, k5, fun i hi => ?_⟩
  · rw [eC 10 (by omega), eM]; exact h1
  · rw [eM]; exact h2
  · unfold ckS
    rw [eC 10 (by omega), hC.1 2 (by omega) (by omega), hC.1 3 (by omega) (by omega), hC.1 4 (by omega) (by omega)]
    exact hk c hc
  · rw [hC.1 0 (by omega) (by omega), hM.1 4 (by decide) (by decide) (by decide)]; exact h3
  · rw [hC.2.1]; exact t2
  · rw [hM.2.1 6 (by decide) (by decide) (by decide)]; exact t3
  · rw [hC.1 7 (by omega) (by omega), hM.1 5 (by decide) (by decide) (by decide)]; exact t4 k hk
  · rw [hC.1 0 (by omega) (by omega)]; exact k2
  · rw [hM.2.1 3 (by decide) (by decide) (by decide)]; exact k3
  · rw [hC.1 9 (by omega) (by omega)]; exact k4 i hi
  · have ep : RP v' i = RP v i := by funext k; unfold RP; rw [hM.1 3 (by decide) (by decide) (by decide)]
    rw [eC _ (by omega), ep]
    exact k6 i hi
/-- the items of a text that is read, as both sides hold them -/
def IR (w v : Wd) (ord N : Nat) (it : Nat → Int32) (pt : Nat → Nat) : Prop := ord ≤ 75 ∧ N ≤ 150 ∧ w.1 6 3 = nI N ∧ w.1 6 4 = nI ord ∧ (∀ k, k < N → w.1 8 k = it k) ∧ v.1 0 23 = nI ord ∧ OR v ord N it pt
theorem IR_put {w v w' v' : Wd} {ord N : Nat} {it : Nat → Int32} {pt : Nat → Nat} (h : IR w v ord N it pt) (hC : PutC w w') (hM : PutM v v') : IR w' v' ord N it pt := by
  obtain ⟨h1, h2, h3, h4, h5, h6, h7⟩ := h
  refine ⟨h1, h2, by rw [hC.1 6 (by omega)]; exact h3, by rw [hC.1 6 (by omega)]; exact h4, fun k hk => by rw [hC.1 8 (by omega)]; exact h5 k hk, by rw [hM.1 0 (by decide)]; exact h6, h7.1, h7.2.1, fun j hj => ?_⟩
  rw [hM.1 11 (by decide), hM.1 12 (by decide)]
  exact h7.2.2 j hj
theorem c_item {w : Wd} {N : Nat} (hN : N ≤ 150) (h3 : w.1 6 3 = nI N) (h0 : 0 < N) (k : Nat) (hk : k < 2 ^ 30) : ∃ y, f_X1_item (nI k) w = some y ∧ (k < N → y = w.1 8 k) := by
  unfold f_X1_item f_X1_item_b24
  rw [h3, a_sl (by omega)]
  by_cases h : k < N
  · rw [w_t (nI_pos' (by omega)) ((c_le (by omega) (by omega)).mpr (by omega)), bind_s, if_neg one0, if_pos (i_n (by omega) (by omega)), n_cl (by omega)]
    exact ⟨_, rfl, fun _ => rfl⟩
  · rw [w_f (fun q => by have := (c_le (by omega) (by omega)).mp q.2; omega), bind_s, if_pos rfl]
    exact ⟨_, rfl, fun q => absurd q h⟩
theorem letters {x M : Nat} (hx : x ≤ 127) (hM : M ≤ 20) (h : f_X1_numbersOf (nI x) = some (nI M)) : (x = 99 ∧ M = 3) ∨ (x = 101 ∧ M = 5) ∨ (x = 103 ∧ M = 2) ∨ (x = 108 ∧ M = 4) ∨ (x = 115 ∧ M = 2) ∨ (x = 118 ∧ M = 2) := by
  have eq : ∀ m : Nat, m ≤ 20 → some (nI m) = some (nI M) → M = m := fun m hm q => ((c_eq (by omega) (by omega)).mp (Option.some.inj q)).symm
  by_cases h99 : x = 99
  · subst h99; exact .inl ⟨rfl, eq 3 (by omega) h⟩
  by_cases h101 : x = 101
  · subst h101; exact .inr (.inl ⟨rfl, eq 5 (by omega) h⟩)
  by_cases h103 : x = 103
  · subst h103; exact .inr (.inr (.inl ⟨rfl, eq 2 (by omega) h⟩))
  by_cases h108 : x = 108
  · subst h108; exact .inr (.inr (.inr (.inl ⟨rfl, eq 4 (by omega) h⟩)))
  by_cases h115 : x = 115
  · subst h115; exact .inr (.inr (.inr (.inr (.inl ⟨rfl, eq 2 (by omega) h⟩))))
  by_cases h118 : x = 118
  · subst h118; exact .inr (.inr (.inr (.inr (.inr ⟨rfl, eq 2 (by omega) h⟩))))
  exfalso
  have g : ∀ c : Nat, c ≤ 127 → x ≠ c → ¬ nI x = nI c := fun c hc hne q => hne ((c_eq (by omega) (by omega)).mp q)
  unfold f_X1_numbersOf f_X1_numbersOf_b104 f_X1_numbersOf_b96 at h
  rw [if_neg (show ¬ nI x = 99 from g 99 (by omega) h99), if_neg (show ¬ nI x = 101 from g 101 (by omega) h101), if_neg (show ¬ nI x = 103 from g 103 (by omega) h103), if_neg (show ¬ nI x = 108 from g 108 (by omega) h108), if_neg (show ¬ nI x = 115 from g 115 (by omega) h115), if_neg (show ¬ nI x = 118 from g 118 (by omega) h118)] at h
  simp only [ite_self] at h
  exact m1_ne hM (Option.some.inj h).symm
theorem u_one {w v : Wd} {ord N : Nat} {it : Nat → Int32} {pt : Nat → Nat} (hr : RC w 10 = RM v) (hv : VR (RM v)) (hI : IR w v ord N it pt) {j : Nat} (hj : j < ord) : Up w v (f_X5_perform (nI (pt j)) w) (f_X6_doneOne (nI j) v) := by
  obtain ⟨h1, h2, h3, h4, h5, h6, h7⟩ := hI
  have hmo := OR_mono h7
  obtain ⟨g1, M, x, g2, g3, g4, g5, g6, g7, g8, g9⟩ := h7.2.2 j hj
  have hle := hmo (ord - (j + 1)) (j + 1) (by omega)
  have hN0 : 0 < N := by omega
  obtain ⟨y1, i1, e1⟩ := c_item h2 h3 hN0 (pt j + 1) (by omega)
  obtain ⟨y2, i2, e2⟩ := c_item h2 h3 hN0 (pt j + 2) (by omega)
  obtain ⟨y3, i3, e3⟩ := c_item h2 h3 hN0 (pt j + 3) (by omega)
  obtain ⟨y4, i4, e4⟩ := c_item h2 h3 hN0 (pt j + 4) (by omega)
  obtain ⟨y5, i5, e5⟩ := c_item h2 h3 hN0 (pt j + 5) (by omega)
  obtain ⟨y0, i0, e0⟩ := c_item h2 h3 hN0 (pt j) (by omega)
  have w0 : y0 = nI x := by rw [e0 (by omega), h5 _ (by omega), g5]
  have num : ∀ i, i < M → w.1 8 (pt j + 1 + i) = v.1 12 (5 * j + i) := fun i hi => by rw [h5 _ (by omega)]; exact g9 i hi
  have w1 : y1 = v.1 12 (5 * j) := by rw [e1 (by omega)]; exact num 0 (by omega)
  have w2 : y2 = v.1 12 (5 * j + 1) := by rw [e2 (by omega)]; exact num 1 (by omega)
  have w3 : 2 < M → y3 = v.1 12 (5 * j + 2) := fun q => by rw [e3 (by omega)]; exact num 2 q
  have w4 : 3 < M → y4 = v.1 12 (5 * j + 3) := fun q => by rw [e4 (by omega)]; exact num 3 q
  have w5 : 4 < M → y5 = v.1 12 (5 * j + 4) := fun q => by rw [e5 (by omega)]; exact num 4 q
  have bo : ∀ (o : Option (Int32 × Wd)), o.bind (fun z => some (z.1, z.2)) = o := fun o => bd o
  unfold f_X5_perform f_X6_doneOne
  simp only [a_al, jlet_eq, a_lm, bo]
  rw [i1, bind_s, i2, bind_s, i3, bind_s, i0, bind_s, i4, i5, w0, if_pos (i_n (by omega) (by omega)), if_pos (i_n (by omega) (by omega)), if_pos (i_n (by omega) (by omega)), if_pos (i_n (by omega) (by omega)), if_pos (i_n (by omega) (by omega)), if_pos (i_n (by omega) (by omega)), n_cl (by omega), n_cl (by omega), n_cl (by omega), n_cl (by omega), n_cl (by omega), n_cl (by omega), g6]
  simp only [bind_s]
  rcases letters g7 (by omega) g8 with ⟨rfl, rfl⟩ | ⟨rfl, rfl⟩ | ⟨rfl, rfl⟩ | ⟨rfl, rfl⟩ | ⟨rfl, rfl⟩ | ⟨rfl, rfl⟩
  · rw [← w1, ← w2, ← w3 (by omega)]
    obtain ⟨p, hp⟩ := plc hr hv y1 y2 y3
    have := u_dark hr hv y1 y2 y3 p hp
    show Up w v ((f_X4_place y1 y2 y3 w).bind (fun v5 => f_X4_darken v5 w)) (f_X6_putClear y1 y2 y3 v)
    rw [hp, bind_s]
    exact this
  · rw [← w1, ← w2, ← w3 (by omega), ← w4 (by omega), ← w5 (by omega)]
    obtain ⟨p, hp⟩ := plc hr hv y1 y2 y3
    have := u_echo hr hv y1 y2 y3 p y4 y5 hp
    show Up w v ((f_X4_place y1 y2 y3 w).bind (fun v7 => f_X4_layEcho v7 y4 y5 w)) (f_X6_putEcho y1 y2 y3 y4 y5 v)
    rw [hp, bind_s]
    exact this
  · rw [← w1, ← w2]
    exact u_grid hr hv y1 y2
  · rw [← w1, ← w2, ← w3 (by omega), ← w4 (by omega)]
    obtain ⟨p, hp⟩ := plc hr hv y1 y2 y3
    have := u_light hr hv y1 y2 y3 p y4 hp
    show Up w v ((f_X4_place y1 y2 y3 w).bind (fun v12 => f_X4_addLight v12 y4 w)) (f_X6_putShine y1 y2 y3 y4 v)
    rw [hp, bind_s]
    exact this
  · rw [← w1, ← w2]
    exact u_set hr hv y1 y2
  · rw [← w1, ← w2]
    exact u_wave hr hv y1 y2
theorem m_undo {v : Wd} {r0 : Row} (h2 : ∀ k, k < 395 → v.1 2 k = r0 k) (h0 : ∀ k, 395 ≤ k → r0 k = 0) (j : Nat) : ∃ v' : Wd, f_X6_does_b42 (nI j) FUEL 0 v = some (-1000 - nI j, v') ∧ PutM v v' ∧ RM v' = r0 := by
  obtain ⟨v', a1, a2, a3⟩ := loopG (fun n (s : Wd) i => f_X6_does_b42 (nI j) n i s) (fun s => some (-1000 - nI j, s)) 395 (fun i s => PutM v s ∧ ∀ k, k < i → s.1 1 k = r0 k) (by omega)
    (fun m s hI => by
      show f_X6_does_b42 (nI j) (m + 1) (nI 395) s = _
      rw [f_X6_does_b42, if_pos (by decide)])
    (fun m i s hi hI => by
      refine ⟨wset s 1 i (r0 i), ⟨hI.1.s _ _, fun k hk => ?_⟩, ?_⟩
      · by_cases h : k = i
        · rw [h, ws_same]
        · rw [ws_k _ _ (by omega)]; exact hI.2 k (by omega)
      · show f_X6_does_b42 (nI j) (m + 1) (nI i) s = f_X6_does_b42 (nI j) m (nI (i + 1)) _
        rw [f_X6_does_b42, if_neg (fun q => by have := (c_lle (by decide) (by omega)).mp q; omega), if_pos (i_n hi (by omega)), if_pos (i_n hi (by omega)), n_cl (by omega), a_al, hI.1.1 2 (by decide), h2 i hi]
        rfl) v ⟨PutM.rf v, fun k hk => by omega⟩
  refine ⟨v', a1, a2, ?_⟩
  funext k
  unfold RM
  by_cases hk : k < 395
  · rw [if_pos hk]; exact a3 k hk
  · rw [if_neg hk, h0 k (by omega)]
theorem Mid_back {w v : Wd} {r0 : Row} (h : Mid w v r0) (hr : RC w 10 = r0) (hM : RM v = r0) (hk : ∀ c, c < 32 → (w.1 2 c = -1 ∨ ckS r0 w c)) : Sim w v := by
  obtain ⟨h1, h2, h3, h4, h5, h5', h6, h7, h8⟩ := h
  exact ⟨h1, h2, fun c hc => by rw [hr]; exact hk c hc, h6, h7, h8⟩
theorem does_b {ord N : Nat} {it : Nat → Int32} {pt : Nat → Nat} {r0 : Row} : ∀ (d j f g : Nat) (w v : Wd), j + d = ord → d < f → d < g → Mid w v r0 → IR w v ord N it pt → (∀ c, c < 32 → (w.1 2 c = -1 ∨ ckS r0 w c)) → Ag (f_X5_does_b32 f (nI (pt j)) (nI j) w) (f_X6_does_b21 g (nI j) v) := by
  intro d
  induction d with
  | zero =>
    intro j f g w v hj hf hg hm hI hk
    obtain ⟨f, rfl⟩ : ∃ q, f = q + 1 := ⟨f - 1, by omega⟩
    obtain ⟨g, rfl⟩ : ∃ q, g = q + 1 := ⟨g - 1, by omega⟩
    obtain ⟨h1, h2, h3, h4, h5, h6, h7⟩ := hI
    obtain ⟨w', v', c1, c2, c3, c4, c5⟩ := Mid_keep hm
    rw [f_X5_does_b32, f_X6_does_b21, h4, h6, if_pos ((c_le (by omega) (by omega)).mpr (by omega)), if_pos ((c_le (by omega) (by omega)).mpr (by omega)), c1, c2, bind_s, bind_s]
    exact ⟨nI ord, w', v', by rw [c4, h4], by rw [c5 23 (by decide), h6], c3⟩
  | succ d ih =>
    intro j f g w v hj hf hg hm hI hk
    obtain ⟨f, rfl⟩ : ∃ q, f = q + 1 := ⟨f - 1, by omega⟩
    obtain ⟨g, rfl⟩ : ∃ q, g = q + 1 := ⟨g - 1, by omega⟩
    have hI' := hI
    obtain ⟨h1, h2, h3, h4, h5, h6, h7⟩ := hI
    obtain ⟨r, w1, v1, a1, a2, a3, a4, a5, a6, a7⟩ := u_one hm.1 hm.2.1 hI' (j := j) (by omega)
    rw [f_X5_does_b32, f_X6_does_b21, h4, h6, if_neg (fun q => by have := (c_le (by omega) (by omega)).mp q; omega), if_neg (fun q => by have := (c_le (by omega) (by omega)).mp q; omega), a1, a2, bind_s, bind_s]
    dsimp only
    have hm1 := Mid_put hm a3 a4 a5 a6
    have hk1 : ∀ c, c < 32 → (w1.1 2 c = -1 ∨ ckS r0 w1 c) := fun c hc => by
      unfold ckS
      rw [a3.1 2 (by omega), a3.1 3 (by omega), a3.1 4 (by omega)]
      exact hk c hc
    by_cases hb : r = -10002
    · rw [if_pos hb, if_pos hb]
      obtain ⟨w2, b1, b2, b3, b4⟩ := c_copy (w := w1) (i := 10) (j := 14) (by omega)
      obtain ⟨v2, c1, c2, c3⟩ := m_undo (v := v1) (r0 := r0) hm1.2.2.2.1 hm1.2.2.2.2.2.1 j
      have pC : PutC w1 w2 := ⟨fun a ha => b2 a (by omega), b3⟩
      have e14 : RC w2 10 = r0 := by rw [b4]; exact hm1.2.2.1
      have hm2 := Mid_put hm1 pC c2 (by rw [e14, c3]) (by rw [c3]; exact hm1.2.2.2.2.1)
      rw [b1, bind_s, c1]
      refine ⟨_, w2, v2, rfl, rfl, Mid_back hm2 e14 c3 (fun c hc => ?_)⟩
      unfold ckS
      rw [pC.1 2 (by omega), pC.1 3 (by omega), pC.1 4 (by omega)]
      exact hk1 c hc
    · rw [if_neg hb, if_neg hb]
      have hI1 := IR_put hI' a3 a4
      obtain ⟨g1, M, x, g2, g3, g4, g5, g6, g7, g8, g9⟩ := h7.2.2 j (by omega)
      have hle := OR_mono h7 (ord - (j + 1)) (j + 1) (by omega)
      obtain ⟨y0, i0, e0⟩ := c_item h2 hI1.2.2.1 (by omega) (pt j) (by omega)
      have w0 : y0 = nI x := by rw [e0 (by omega), hI1.2.2.2.2.1 _ (by omega), g5]
      rw [i0, bind_s, w0, g8, bind_s, jlet_eq, a_la, nI_add, a_al, show pt j + (1 + M) = pt (j + 1) by omega]
      exact ih (j + 1) f g w1 v1 (by omega) (by omega) (by omega) hm1 hI1 hk1
theorem s_does {w v : Wd} (h : Sim w v) : Ag (f_X5_does w) (f_X6_does v) := by
  obtain ⟨n, t1, t2, t3, t4⟩ := h.2.2.2.2.1
  have hc : TC w n (fun k => tn (v.1 5 k)) := ⟨t1, t2, fun k hk => by
    obtain ⟨q, -, q2, q3⟩ := (t4 k hk).2
    rw [(t4 k hk).1]
    dsimp only
    rw [q3, tn_n (by omega)]
    exact ⟨rfl, q2⟩⟩
  have hm : TM v n (fun k => tn (v.1 5 k)) := ⟨t1, t3, fun k hk => by
    obtain ⟨q, -, q2, q3⟩ := (t4 k hk).2
    dsimp only
    rw [q3, tn_n (by omega)]
    exact ⟨rfl, q2⟩⟩
  unfold f_X5_does f_X6_does
  rcases read_all hc hm with ⟨p, w1, v1, q1, q2, q3, q4, q5, q6⟩ | ⟨ord, N, w1, v1, it, pt, q1, q2, q3, q4, q5, q6, q7, q8, q9, q10⟩
  · rw [q2, q4, bind_s, bind_s, if_pos rfl]
    dsimp only
    rw [if_neg (nlt0 (by omega)), q5]
    exact Ag_same (Sim_rd h q3 q6) _ rfl rfl
  · have hs := Sim_rd h q5 q8
    rw [q4, q7, bind_s, bind_s, if_neg one0]
    dsimp only
    rw [if_pos m1lt]
    obtain ⟨w2, v2, a1, b1, hs2, hm2, hR⟩ := Sim_aside hs
    obtain ⟨w2', a1', a2, -⟩ := c_copy (w := w1) (i := 14) (j := 10) (by omega)
    obtain ⟨v2', b1', b2, -⟩ := m_aside v1
    obtain rfl : w2' = w2 := Option.some.inj (a1'.symm.trans a1)
    obtain rfl : v2' = v2 := Option.some.inj (b1'.symm.trans b1)
    rw [a1, b1, bind_s, bind_s]
    have hPS := q6
    obtain ⟨p5, p4, p6, -, ⟨-, p3, p8⟩ | ⟨pp, -⟩⟩ := hPS
    · have hI : IR w2' v2' ord N it pt := by
        refine ⟨q1, q3, by rw [a2 6 (by omega)]; exact p3, by rw [a2 6 (by omega)]; exact p4, fun k hk => by rw [a2 8 (by omega)]; exact p8 k hk, by rw [b2 0 (by decide)]; exact q9, q10.1, q10.2.1, fun j hj => ?_⟩
        rw [b2 11 (by decide), b2 12 (by decide)]
        exact q10.2.2 j hj
      have hck : ∀ c, c < 32 → (w2'.1 2 c = -1 ∨ ckS (RM v1) w2' c) := fun c hc => by
        have := hs2.2.2.1 c hc
        rw [hs2.1, hR] at this
        exact this
      have := does_b (r0 := RM v1) ord 0 FUEL FUEL w2' v2' (by omega) (by unfold FUEL; omega) (by unfold FUEL; omega) hm2 hI hck
      rw [q10.1] at this
      exact this
    · omega
