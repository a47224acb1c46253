/-! COUNTED LOOPS -/
def foldN {σ : Type} (step : Nat → σ → σ) : Nat → Nat → σ → σ
  | 0, _, s => s
  | k + 1, j, s => foldN step k (j + 1) (step j s)
theorem foldN_congr {σ : Type} {f g : Nat → σ → σ} : ∀ (k j : Nat) (s : σ), (∀ i, j ≤ i → i < j + k → ∀ s, f i s = g i s) → foldN f k j s = foldN g k j s
  | 0, _, _, _ => rfl
  | k + 1, j, s, h => by
    show foldN f k (j + 1) (f j s) = foldN g k (j + 1) (g j s)
    rw [h j (Nat.le_refl _) (by omega)]
    exact foldN_congr k (j + 1) _ (fun i h1 h2 => h i (by omega) (by omega))
theorem foldN_succ {σ : Type} (f : Nat → σ → σ) : ∀ (k j : Nat) (s : σ), foldN f (k + 1) j s = f (j + k) (foldN f k j s)
  | 0, j, s => rfl
  | k + 1, j, s => by
    show foldN f (k + 1) (j + 1) (f j s) = f (j + (k + 1)) (foldN f k (j + 1) (f j s))
    rw [foldN_succ f k (j + 1) (f j s), show j + 1 + k = j + (k + 1) by omega]
/-- what holds all along holds at the end -/
theorem foldN_inv {σ : Type} {f : Nat → σ → σ} (I : Nat → σ → Prop) : ∀ (k j : Nat) (s : σ), I j s → (∀ i s, j ≤ i → i < j + k → I i s → I (i + 1) (f i s)) → I (j + k) (foldN f k j s)
  | 0, _, _, h, _ => h
  | k + 1, j, s, h, hs => by
    show I (j + (k + 1)) (foldN f k (j + 1) (f j s))
    rw [show j + (k + 1) = j + 1 + k by omega]
    exact foldN_inv I k (j + 1) _ (hs j s (Nat.le_refl _) (by omega) h) (fun i s h1 h2 => hs i s (by omega) (by omega))
theorem loopN {σ τ : Type} (L : Nat → σ → Int32 → Option τ) (step : Nat → σ → σ) (fin : σ → Option τ) (N : Nat) (Inv : Nat → σ → Prop)
    (hend : ∀ m s, Inv N s → L (m + 1) s (nI N) = fin s)
    (hstep : ∀ m j s, j < N → Inv j s → Inv (j + 1) (step j s) ∧ L (m + 1) s (nI j) = L m (step j s) (nI (j + 1))) :
    ∀ k m j s, j + k = N → k < m → Inv j s → L m s (nI j) = fin (foldN step k j s) ∧ Inv N (foldN step k j s) := by
  intro k
  induction k with
  | zero =>
    intro m j s hj hm hI
    cases m with
    | zero => omega
    | succ m =>
      have e : j = N := by omega
      subst e
      exact ⟨hend m s hI, hI⟩
  | succ k ih =>
    intro m j s hj hm hI
    cases m with
    | zero => omega
    | succ m =>
      obtain ⟨h1, h2⟩ := hstep m j s (by omega) hI
      have := ih m (j + 1) (step j s) (by omega) (by omega) h1
      rw [h2]
      exact this
theorem loopF {σ τ : Type} (L : Nat → σ → Int32 → Option τ) (step : Nat → σ → σ) (fin : σ → Option τ) (N : Nat) (Inv : Nat → σ → Prop) (hN : N < 20000)
    (hend : ∀ m s, Inv N s → L (m + 1) s (nI N) = fin s)
    (hstep : ∀ m j s, j < N → Inv j s → Inv (j + 1) (step j s) ∧ L (m + 1) s (nI j) = L m (step j s) (nI (j + 1))) (s : σ) (h0 : Inv 0 s) :
    L FUEL s 0 = fin (foldN step N 0 s) ∧ Inv N (foldN step N 0 s) := loopN L step fin N Inv hend hstep N FUEL 0 s (by omega) (by unfold FUEL; omega) h0
/-! THE CLASS: readings of a rate and a cell -/
theorem w_t {v a b : Int32} (h1 : a ≤ v) (h2 : v ≤ b) : f_X5_within v a b = some 1 := by rw [f_within, if_pos ⟨h1, h2⟩]
theorem w_f {v a b : Int32} (h : ¬ (a ≤ v ∧ v ≤ b)) : f_X5_within v a b = some 0 := by rw [f_within, if_neg h]
theorem in_t {v a b : Int32} (h1 : a ≤ v) (h2 : v ≤ b) : f_X6_in v a b = some 1 := by rw [f_in, if_pos ⟨h1, h2⟩]
theorem in_f {v a b : Int32} (h : ¬ (a ≤ v ∧ v ≤ b)) : f_X6_in v a b = some 0 := by rw [f_in, if_neg h]
theorem e383 : (384 : Int32) - 1 = 383 := by decide
theorem abz (x : Int32) : (if 0 ≤ x then x else 0 - x) = ab x := by
  unfold ab
  split
  · rfl
  · exact Int32.zero_sub x
theorem c_sample {w : Wd} {c k i : Nat} (hc : c < 32) (hk : k < 3) (hi : i < 4) : f_X4_sampleAt (nI c) (nI k) (nI i) w = some (RC w 10 (pos c + 4 * k + i)) := by
  unfold f_X4_sampleAt f_X4_sampleAt_b39
  simp only [a_ml, nI_add, jlet_eq, e383]
  rw [w_t (nI_pos' (by omega)) ((c_lel (by omega) (by omega)).mpr (by omega)), bind_s, if_neg (by decide), if_pos (i_n (by omega) (by omega)), n_cl (by omega), RC_m10 (by omega)]
  congr 2
  unfold pos
  omega
theorem c_X {w : Wd} {c k : Nat} (hc : c < 32) (hk : k < 3) : f_X4_across (nI c) (nI k) w = some (sX (RC w 10) (pos c + 4 * k)) := by
  unfold f_X4_across
  rw [show (0 : Int32) = nI 0 from rfl, show (2 : Int32) = nI 2 from rfl, c_sample hc hk (by omega), c_sample hc hk (by omega)]
  rfl
theorem c_Y {w : Wd} {c k : Nat} (hc : c < 32) (hk : k < 3) : f_X4_along (nI c) (nI k) w = some (sY (RC w 10) (pos c + 4 * k)) := by
  unfold f_X4_along
  rw [show (1 : Int32) = nI 1 from rfl, show (3 : Int32) = nI 3 from rfl, c_sample hc hk (by omega), c_sample hc hk (by omega)]
  rfl
theorem c_size (x y : Int32) : f_X3_size x y = some (ab x + ab y) := by
  unfold f_X3_size
  rw [abz, abz]
theorem c_Strxy (x y : Int32) : f_X3_strength x y = some (FP.fdiv (FP.i2f (ab x + ab y)) FP.fconst2) := by
  unfold f_X3_strength
  rw [c_size, bind_s, if_pos (nn_half _)]
theorem c_Str {w : Wd} {c k : Nat} (hc : c < 32) (hk : k < 3) : f_X4_strengthOf (nI c) (nI k) w = some (sStr (RC w 10) (pos c + 4 * k)) := by
  unfold f_X4_strengthOf
  rw [c_X hc hk, bind_s, c_Y hc hk, bind_s, c_Strxy, bind_s]
  rfl
theorem c_glow {w : Wd} {c : Nat} (hc : c < 32) : f_X4_brightness (nI c) w = some (sGlow (RC w 10) (pos c)) := by
  unfold f_X4_brightness
  rw [show (0 : Int32) = nI 0 from rfl, show (1 : Int32) = nI 1 from rfl, show (2 : Int32) = nI 2 from rfl, c_Str hc (by omega), c_Str hc (by omega), c_Str hc (by omega)]
  simp only [bind_s]
  rw [if_pos (show nn32 (FP.fadd (sStr (RC w 10) (pos c + 4 * 0)) (sStr (RC w 10) (pos c + 4 * 1))) = true from nn_g2 (RC w 10) (pos c)), if_pos (show nn32 (FP.fadd (FP.fadd (sStr (RC w 10) (pos c + 4 * 0)) (sStr (RC w 10) (pos c + 4 * 1))) (sStr (RC w 10) (pos c + 4 * 2))) = true from nn_glow (RC w 10) (pos c))]
  rfl
theorem c_Ph (x y : Int32) : f_X3_phase x y = some (sPh x y) := by
  unfold f_X3_phase f_X3_phase_b43
  simp only [jlet_eq, abz]
  unfold sPh
  by_cases h : ab x + ab y = 0
  · rw [if_pos h, if_pos h]
  · have e1 := nn_of (nan_Q h)
    have e2 := nn_of (nan_4Q h)
    have e3 := nn_of (nan_2Q h)
    unfold sQ at e1 e2 e3
    rw [if_neg h, if_neg h]
    unfold sQ
    simp only [e1, e2, e3, if_true]
    split
    · split <;> rfl
    · rfl
theorem c_Res {x y wv : Int32} (hw : 1 ≤ wv) : f_X3_residue x y wv = some (if x = 0 ∧ y = 0 then -10001 else sRes x y wv) := by
  have hw0 : ¬ wv = 0 := fun q => by rw [q] at hw; exact absurd hw (by decide)
  have key : f_X3_residue_b8 x y wv = some (sRes x y wv) := by
    unfold f_X3_residue_b8
    rw [if_pos hw, c_Ph, bind_s]
    have e1 := nn_of (nan_Pw x y hw0)
    have e2 := nn_of (nan_P4 x y hw0)
    have e3 := nn_of (nan_Ph5 x y hw0)
    unfold sPw at e1 e2 e3
    rw [if_pos e1, if_pos e2, if_pos e3, if_pos hw0]
    rfl
  unfold f_X3_residue f_X3_residue_b13
  rw [key]
  by_cases h1 : x = 0
  · by_cases h2 : y = 0
    · rw [if_pos h1, if_pos h2, if_pos ⟨h1, h2⟩]
    · rw [if_pos h1, if_neg h2, if_neg (fun q => h2 q.2)]
  · rw [if_neg h1, if_neg (fun q => h1 q.1)]
theorem c_place0 (w : Wd) (e x y : Int32) : f_X4_place e x y w = some (if okC (RC w 10) e x y then e * 4 * 4 + y * 4 + x else -1) := by
  unfold f_X4_place f_X4_place_b41 f_X4_place_b42 f_X4_place_b62
  simp only [f_within, bind_s, if_true]
  rw [RC_0 w 10, RC_1 w 10, if_neg (show ¬ (1 : Int32) = 0 by decide)]
  have e4 : ((e * 4 + y) * 4 + x) = e * 4 * 4 + y * 4 + x := by rw [Int32.add_mul]
  rw [e4]
  by_cases h1 : (0 : Int32) ≤ e ∧ e ≤ 1
  · rw [if_pos h1, if_neg (by decide)]
    by_cases h2 : (0 : Int32) ≤ x ∧ x ≤ RC w 10 0 - 1
    · rw [if_pos h2, if_neg (by decide)]
      by_cases h3 : (0 : Int32) ≤ y ∧ y ≤ RC w 10 1 - 1
      · rw [if_pos h3, if_neg (by decide), if_pos ⟨h1, h2, h3⟩]
      · rw [if_neg h3, if_pos rfl, if_neg (fun q => h3 q.2.2)]
    · rw [if_neg h2, if_pos rfl, if_neg (fun q => h2 q.2.1)]
  · rw [if_neg h1, if_pos rfl, if_neg (fun q => h1 q.1)]
theorem c_place {w : Wd} {e x y : Nat} (h : okC (RC w 10) (nI e) (nI x) (nI y)) : f_X4_place (nI e) (nI x) (nI y) w = some (nI (16 * e + 4 * y + x)) := by
  rw [c_place0, if_pos h]
  simp only [a_ml, nI_add]
  congr 2
  omega
theorem c_placeN {w : Wd} {e x y : Int32} (h : ¬ okC (RC w 10) e x y) : f_X4_place e x y w = some (-1) := by
  rw [c_place0, if_neg h]
theorem c_isCell {c : Nat} (h : c < 32) : f_X4_isCell (nI c) = some 1 := by
  unfold f_X4_isCell
  rw [w_t (nI_pos' (by omega)) ((c_lel (by omega) (by omega)).mpr (by omega))]
  rfl
theorem c_isCellN : f_X4_isCell (-1) = some 0 := by
  unfold f_X4_isCell
  rw [f_within, bind_s]
  rfl
/-- how many of a cell's samples are lim or more -/
def cntS (r : Row) (c : Nat) (lim : Int32) : Nat := foldN (fun i s => s + (if r (pos c + i) < lim then 0 else 1)) 12 0 0
theorem c_count {w : Wd} {c : Nat} {lim : Int32} (hc : c < 32) : f_X4_countFrom (nI c) lim w = some (nI (cntS (RC w 10) c lim)) := by
  unfold f_X4_countFrom
  rw [c_isCell hc, bind_s, if_neg (by decide)]
  have := (loopF (fun n (s : Nat) i => f_X4_countFrom_b14 (nI c) lim w n (nI s) i) (fun i s => s + (if RC w 10 (pos c + i) < lim then 0 else 1)) (fun s => some (nI s)) 12 (fun _ _ => True) (by omega)
    (fun m s _ => by
      show f_X4_countFrom_b14 (nI c) lim w (m + 1) (nI s) (nI 12) = _
      rw [f_X4_countFrom_b14, if_pos ((c_lle (by omega) (by omega)).mpr (by omega))])
    (fun m j s hj _ => ⟨trivial, by
      show f_X4_countFrom_b14 (nI c) lim w (m + 1) (nI s) (nI j) = f_X4_countFrom_b14 (nI c) lim w m (nI _) (nI (j + 1))
      rw [f_X4_countFrom_b14, if_neg (fun q => by have := (c_lle (by omega) (by omega)).mp q; omega)]
      unfold f_X4_countFrom_b43
      simp only [a_ml, nI_add, jlet_eq, a_al]
      rw [if_pos (i_n (by omega) (by omega)), n_cl (by omega), RC_m10 (by omega), show 11 + (c * 12 + j) = pos c + j by unfold pos; omega]
      by_cases h : RC w 10 (pos c + j) < lim
      · rw [if_pos h, if_pos h]
      · rw [if_neg h, if_neg h]⟩) 0 trivial).1
  exact this
