/-! CALLS THAT CHANGE: a state more, or a refusal -/
/-- between: the row before kept aside on both sides, what is now changed on both alike -/
def Mid (w v : Wd) (r0 : Row) : Prop := RC w 10 = RM v ∧ VR (RM v) ∧ RC w 14 = r0 ∧ (∀ k, k < 395 → v.1 2 k = r0 k) ∧ VR r0 ∧ (∀ k, 395 ≤ k → r0 k = 0) ∧ (w.1 0 6 = v.1 4 0 ∧ w.1 0 7 = v.1 4 1 ∧ w.1 0 8 = v.1 4 2) ∧ TX w v ∧ KP w v
theorem Mid_put {w v w' v' : Wd} {r0 : Row} (h : Mid w v r0) (hC : PutC w w') (hM : PutM v v') (hr : RC w' 10 = RM v') (hv : VR (RM v')) : Mid w' v' r0 := by
  obtain ⟨-, -, h3, h4, h5, h5', h6, ⟨n, t1, t2, t3, t4⟩, m, p, k1, k2, k3, k4, k5, k6⟩ := h
  have e : ∀ b, 14 ≤ b → RC w' b = RC w b := fun b hb => by
    funext k
    unfold RC
    rw [hC.1 b (by omega), hC.1 (b + 1) (by omega), hC.1 (b + 2) (by omega), hC.1 (b + 3) (by omega)]
  refine ⟨hr, hv, by rw [e 14 (by omega)]; exact h3, fun k hk => by rw [hM.1 2 (by decide)]; exact h4 k hk, h5, h5', ?_, ⟨n, t1, ?_, ?_, fun k hk => ?_⟩, m, p, k1, ?_, ?_, fun i hi => ?_, k5, fun i hi => ?_⟩
  · rw [hC.1 0 (by omega), hM.1 4 (by decide)]; exact h6
  · rw [hC.1 6 (by omega)]; exact t2
  · rw [hM.1 0 (by decide)]; exact t3
  · rw [hC.1 7 (by omega), hM.1 5 (by decide)]; exact t4 k hk
  · rw [hC.1 0 (by omega)]; exact k2
  · rw [hM.1 0 (by decide)]; exact k3
  · rw [hC.1 9 (by omega)]; exact k4 i hi
  · have := k4 i (by omega)
    have ep : RP v' i = RP v i := by funext k; unfold RP; rw [hM.1 3 (by decide)]
    rw [e _ (by omega), ep]
    exact k6 i hi
theorem Sim_aside {w v : Wd} (h : Sim w v) : ∃ w1 v1 : Wd, f_X4_copyFrom 14 10 w = some w1 ∧ f_X6_laysAside v = some v1 ∧ Sim w1 v1 ∧ Mid w1 v1 (RM v) ∧ RM v1 = RM v := by
  obtain ⟨w1, a1, a2, a3, a4⟩ := c_copy (w := w) (i := 14) (j := 10) (by omega)
  obtain ⟨v1, b1, b2, b3, b4⟩ := m_aside v
  obtain ⟨h1, h2, hk, h3, ⟨n, t1, t2, t3, t4⟩, m, p, k1, k2, k3, k4, k5, k6⟩ := h
  have e : ∀ b, b < 11 ∨ 18 ≤ b → RC w1 b = RC w b := fun b hb => by
    funext k
    unfold RC
    rw [a2 b (by omega), a2 (b + 1) (by omega), a2 (b + 2) (by omega), a2 (b + 3) (by omega)]
  have eM : RM v1 = RM v := by funext k; unfold RM; rw [b2 1 (by decide)]
  have hTX : TX w1 v1 := ⟨n, t1, by rw [a2 6 (by omega)]; exact t2, by rw [b2 0 (by decide)]; exact t3, fun k hk => by rw [a2 7 (by omega), b2 5 (by decide)]; exact t4 k hk⟩
  have hKP : KP w1 v1 := by
    refine ⟨m, p, k1, by rw [a2 0 (by omega)]; exact k2, by rw [b2 0 (by decide)]; exact k3, fun i hi => by rw [a2 9 (by omega)]; exact k4 i hi, k5, fun i hi => ?_⟩
    have := k4 i (by omega)
    have ep : RP v1 i = RP v i := by funext k; unfold RP; rw [b2 3 (by decide)]
    rw [e _ (by omega), ep]
    exact k6 i hi
  have hre : w1.1 0 6 = v1.1 4 0 ∧ w1.1 0 7 = v1.1 4 1 ∧ w1.1 0 8 = v1.1 4 2 := by rw [a2 0 (by omega), b2 4 (by decide)]; exact h3
  refine ⟨w1, v1, a1, b1, ⟨?_, ?_, fun c hc => ?_, hre, hTX, hKP⟩, ⟨?_, ?_, by rw [a4, h1], fun k hk => b4 k hk, h2, fun k hk => by unfold RM; rw [if_neg (by omega)], hre, hTX, hKP⟩, eM⟩
  · rw [e 10 (by omega), eM]; exact h1
  · rw [eM]; exact h2
  · unfold ckS
    rw [e 10 (by omega), a2 2 (by omega), a2 3 (by omega), a2 4 (by omega)]
    exact hk c hc
  · rw [e 10 (by omega), eM]; exact h1
  · rw [eM]; exact h2
theorem Mid_keep {w v : Wd} {r0 : Row} (h : Mid w v r0) : ∃ w' v' : Wd, f_X5_keepBefore w = some w' ∧ f_X6_remembers v = some v' ∧ Sim w' v' ∧ w'.1 6 = w.1 6 ∧ (∀ k, k ≠ 3 → v'.1 0 k = v.1 0 k) := by
  obtain ⟨h1, h2, h3, h4, h5, h5', h6, ⟨n, t1, t2, t3, t4⟩, m, p, k1, k2, k3, k4, k5, k6⟩ := h
  obtain ⟨w', p', q, c1, c2, c3, c4, c5, c6, c7, c8, c9, c10⟩ := c_keep k1 k2 k4
  obtain ⟨v', q', d1, d2, d3, d4, d5, d6, d7, d8⟩ := m_rem k1 k3
  have eq : q' = q := by rw [c2, d2]
  subst eq
  have hq : q' < 5 := by rw [c2]; split <;> omega
  have hp'b : ∀ i, i < 5 → 2 ≤ p' i ∧ p' i ≤ 6 := fun i hi => by
    rw [c3]
    split
    · show 2 ≤ (if i < 4 then p (i + 1) else p 0) ∧ (if i < 4 then p (i + 1) else p 0) ≤ 6
      split
      · exact ⟨(k4 (i + 1) (by omega)).1, (k4 (i + 1) (by omega)).2.1⟩
      · exact ⟨(k4 0 (by omega)).1, (k4 0 (by omega)).2.1⟩
    · exact ⟨(k4 i hi).1, (k4 i hi).2.1⟩
  have hp'i : ∀ i j, i < 5 → j < 5 → p' i = p' j → i = j := fun i j hi hj hij => by
    rw [c3] at hij
    by_cases h5 : m = 5
    · rw [if_pos h5] at hij
      have hij' : (if i < 4 then p (i + 1) else p 0) = (if j < 4 then p (j + 1) else p 0) := hij
      by_cases hi4 : i < 4
      · rw [if_pos hi4] at hij'
        by_cases hj4 : j < 4
        · rw [if_pos hj4] at hij'
          have := k5 _ _ (by omega) (by omega) hij'
          omega
        · rw [if_neg hj4] at hij'
          have := k5 _ _ (by omega) (by omega) hij'
          omega
      · rw [if_neg hi4] at hij'
        by_cases hj4 : j < 4
        · rw [if_pos hj4] at hij'
          have := k5 _ _ (by omega) (by omega) hij'
          omega
        · omega
    · rw [if_neg h5] at hij
      exact k5 i j hi hj hij
  have hb := hp'b q' hq
  have e : ∀ b, 10 ≤ b → (b + 3 < 10 + 4 * p' q' ∨ 13 + 4 * p' q' < b) → RC w' b = RC w b := fun b hb0 hb => by
    funext k
    unfold RC
    rw [c6 b (by omega) (by omega) (by omega) (by omega), c6 (b + 1) (by omega) (by omega) (by omega) (by omega), c6 (b + 2) (by omega) (by omega) (by omega) (by omega), c6 (b + 3) (by omega) (by omega) (by omega) (by omega)]
  have eM : RM v' = RM v := by funext k; unfold RM; rw [d3 1 (by decide) (by decide)]
  have e6 : w'.1 6 = w.1 6 := c6 6 (by omega) (by omega) (by omega) (by omega)
  refine ⟨w', v', c1, d1, ⟨?_, ?_, fun c hc => .inl (c9 c hc), ?_, ⟨n, t1, ?_, ?_, fun k hk => ?_⟩, q' + 1, p', by omega, c4, d5, fun i hi => ⟨(hp'b i hi).1, (hp'b i hi).2, c5 i hi⟩, hp'i, fun i hi => ?_⟩, e6, d4⟩
  · rw [e 10 (by omega) (by omega), eM]; exact h1
  · rw [eM]; exact h2
  · rw [c7 6 (by decide), c7 7 (by decide), c7 8 (by decide), d3 4 (by decide) (by decide)]; exact h6
  · rw [e6]; exact t2
  · rw [d4 6 (by decide)]; exact t3
  · rw [c6 7 (by omega) (by omega) (by omega) (by omega), d3 5 (by decide) (by decide)]; exact t4 k hk
  · by_cases hiq : i = q'
    · subst hiq
      have er : RP v' i = r0 := by
        funext k
        by_cases hk : k < 395
        · rw [d6 k hk, h4 k hk]
        · unfold RP
          rw [if_neg hk, h5' k (by omega)]
      rw [c8, h3, er]
      exact ⟨rfl, h5⟩
    · have hi5 : i < 5 := by omega
      have hne : p' i ≠ p' q' := fun z => hiq (hp'i i q' hi5 hq z)
      rw [e _ (by omega) (by omega), d7 i (by omega), c3]
      by_cases h5 : m = 5
      · rw [if_pos h5, if_pos h5]
        rw [c2, if_pos h5] at hi
        show RC w (10 + 4 * (if i < 4 then p (i + 1) else p 0)) = _ ∧ _
        rw [if_pos (by rw [c2, if_pos h5] at hiq; omega)]
        exact k6 (i + 1) (by rw [c2, if_pos h5] at hiq; omega)
      · rw [if_neg h5, if_neg h5]
        rw [c2, if_neg h5] at hi hiq
        exact k6 i (by omega)
theorem s_put {w v : Wd} (h : Sim w v) (cf mf : Wd → Option (Int32 × Wd)) (hu : ∀ w1 v1 : Wd, RC w1 10 = RM v1 → VR (RM v1) → RM v1 = RM v → Up w1 v1 (cf w1) (mf v1)) : Ag ((f_X4_copyFrom 14 10 w).bind (fun w1 => (cf w1).bind (fun z3 => (f_X5_settle z3.1 z3.2).bind (fun z4 => some (z4.1, z4.2))))) ((f_X6_laysAside v).bind (fun v1 => (mf v1).bind (fun z3 => (f_X6_finished z3.1 z3.2).bind (fun z4 => some (z4.1, z4.2))))) := by
  simp only [bd]
  obtain ⟨w1, v1, a1, b1, hs, hm, hR⟩ := Sim_aside h
  obtain ⟨r, w2, v2, c1, c2, c3, c4, c5, c6, c7⟩ := hu w1 v1 hs.1 hs.2.1 hR
  rw [a1, b1, bind_s, bind_s, c1, c2, bind_s, bind_s]
  unfold f_X5_settle f_X6_finished
  simp only [bd]
  by_cases hb : r = -10002
  · obtain ⟨rfl, rfl⟩ := c7 hb
    rw [if_pos hb, if_pos hb]
    exact Ag_bad hs rfl rfl
  · rw [if_neg hb, if_neg hb]
    obtain ⟨w3, v3, d1, d2, d3, -⟩ := Mid_keep (Mid_put hm c3 c4 c5 c6)
    rw [d1, d2, bind_s, bind_s]
    exact ⟨r, w3, v3, rfl, rfl, d3⟩
theorem s_grid {w v : Wd} (h : Sim w v) (a b : Int32) : Ag (f_X5_grid a b w) (f_X6_grid a b v) := s_put h (f_X4_layGrid a b) (f_X6_putGrid a b) (fun _ _ hr hv _ => u_grid hr hv a b)
theorem s_wave {w v : Wd} (h : Sim w v) (a b : Int32) : Ag (f_X5_wave a b w) (f_X6_wave a b v) := s_put h (f_X4_putWave a b) (f_X6_putWave a b) (fun _ _ hr hv _ => u_wave hr hv a b)
theorem s_sets {w v : Wd} (h : Sim w v) (a b : Int32) : Ag (f_X5_sets a b w) (f_X6_sets a b v) := s_put h (f_X4_putSetting a b) (f_X6_putSetting a b) (fun _ _ hr hv _ => u_set hr hv a b)
theorem plc {w v : Wd} (hr : RC w 10 = RM v) (hv : VR (RM v)) (e x y : Int32) : ∃ p, f_X4_place e x y w = some p := by
  rcases cell_u hr hv e x y with ⟨c, -, -, hp, -⟩ | ⟨-, hp, -⟩
  · exact ⟨_, hp⟩
  · exact ⟨_, hp⟩
theorem s_echo {w v : Wd} (h : Sim w v) (e x y a b : Int32) : Ag (f_X5_echo e x y a b w) (f_X6_echo e x y a b v) := by
  have := s_put h (fun w1 => (f_X4_place e x y w1).bind (fun v2 => f_X4_layEcho v2 a b w1)) (f_X6_putEcho e x y a b) (fun w1 v1 hr hv _ => by
    obtain ⟨p, hp⟩ := plc hr hv e x y
    show Up w1 v1 ((f_X4_place e x y w1).bind _) _
    rw [hp, bind_s]
    exact u_echo hr hv e x y p a b hp)
  unfold f_X5_echo f_X6_echo
  simp only [Option.bind_assoc] at this
  exact this
theorem s_shines {w v : Wd} (h : Sim w v) (e x y a : Int32) : Ag (f_X5_shines e x y a w) (f_X6_shines e x y a v) := by
  have := s_put h (fun w1 => (f_X4_place e x y w1).bind (fun v2 => f_X4_addLight v2 a w1)) (f_X6_putShine e x y a) (fun w1 v1 hr hv _ => by
    obtain ⟨p, hp⟩ := plc hr hv e x y
    show Up w1 v1 ((f_X4_place e x y w1).bind _) _
    rw [hp, bind_s]
    exact u_light hr hv e x y p a hp)
  unfold f_X5_shines f_X6_shines
  simp only [Option.bind_assoc] at this
  exact this
theorem s_clears {w v : Wd} (h : Sim w v) (e x y : Int32) : Ag (f_X5_clears e x y w) (f_X6_clears e x y v) := by
  have := s_put h (fun w1 => (f_X4_place e x y w1).bind (fun v2 => f_X4_darken v2 w1)) (f_X6_putClear e x y) (fun w1 v1 hr hv _ => by
    obtain ⟨p, hp⟩ := plc hr hv e x y
    show Up w1 v1 ((f_X4_place e x y w1).bind _) _
    rw [hp, bind_s]
    exact u_dark hr hv e x y p hp)
  unfold f_X5_clears f_X6_clears
  simp only [Option.bind_assoc] at this
  exact this
