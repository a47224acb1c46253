abbrev Tup : Type := Nat × Nat × Nat × Nat
def wS (w : Wd) (o : Option Tup) : Wd := match o with
  | none => wset w 1 5 (-10001)
  | some (b, _, f, l) => wset (wset (wset w 1 5 (nI f)) 1 6 (nI l)) 1 7 (nI b)
def lmC (o : Option Tup) : Int32 := match o with
  | none => 2147483647
  | some (_, m, _, _) => nI m
theorem wS_c (w : Wd) (o : Option Tup) {c : Nat} (h : c ≠ 1) : (wS w o).1 c = w.1 c := by
  cases o with
  | none => exact ws_c _ _ h
  | some t => unfold wS; simp only; rw [ws_c _ _ h, ws_c _ _ h, ws_c _ _ h]
theorem wS_RC (w : Wd) (o : Option Tup) : RC (wS w o) 10 = RC w 10 := by
  funext k
  unfold RC
  rw [wS_c _ _ (by decide), wS_c _ _ (by decide), wS_c _ _ (by decide), wS_c _ _ (by decide)]
theorem wS_5 (w : Wd) (o : Option Tup) : (wS w o).1 1 5 = enc (o.map (fun t => t.2.2.1)) := by
  cases o with
  | none => exact ws_same ..
  | some t => unfold wS; simp only; rw [ws_k _ _ (by decide), ws_k _ _ (by decide), ws_same]; rfl
theorem w3_a (w : Wd) (a b c d e : Int32) : wset (wset (wset (wset (wset (wset w 1 5 a) 1 6 b) 1 7 c) 1 7 d) 1 5 a) 1 6 e = wset (wset (wset w 1 5 a) 1 6 e) 1 7 d := by
  rw [ws_ws, ws_comm (c := 1) (k := 7) (c' := 1) (k' := 5) _ _ _ (by decide), ws_comm (c := 1) (k := 7) (c' := 1) (k' := 6) _ _ _ (by decide), ws_comm (c := 1) (k := 6) (c' := 1) (k' := 5) _ _ _ (by decide), ws_ws, ws_ws]
theorem w3_b (w : Wd) (a b c e : Int32) : wset (wset (wset (wset (wset w 1 5 a) 1 6 b) 1 7 c) 1 5 a) 1 6 e = wset (wset (wset w 1 5 a) 1 6 e) 1 7 c := by
  rw [ws_comm (c := 1) (k := 7) (c' := 1) (k' := 5) _ _ _ (by decide), ws_comm (c := 1) (k := 7) (c' := 1) (k' := 6) _ _ _ (by decide), ws_comm (c := 1) (k := 6) (c' := 1) (k' := 5) _ _ _ (by decide), ws_ws, ws_ws]
theorem w3_n (w : Wd) (z d : Int32) : wset (wset (wset (wset w 1 5 z) 1 7 d) 1 5 d) 1 6 d = wset (wset (wset w 1 5 d) 1 6 d) 1 7 d := by
  rw [ws_comm (c := 1) (k := 7) (c' := 1) (k' := 5) _ _ _ (by decide), ws_ws, ws_comm (c := 1) (k := 7) (c' := 1) (k' := 6) _ _ _ (by decide)]
/-- how an answer that came early stands to the whole one -/
def RelA (z : Nat) (o u : Option Tup) : Prop := match o, u with
  | none, none => True
  | some (b, _, f, l), some (b', _, f', l') => f ≤ b ∧ b ≤ l ∧ l ≤ 9999 ∧ ((b - f ≤ 2 * z ∧ l - b ≤ 2 * z) ↔ (b' - f' ≤ 2 * z ∧ l' - b' ≤ 2 * z)) ∧ ((b - f ≤ 2 * z ∧ l - b ≤ 2 * z) → b = b')
  | _, _ => False
def RelB (o u : Option Tup) : Prop := o.map (fun t => t.1) = u.map (fun t => t.1)
def fnd (o : Option Tup) : Int32 := match o with
  | none => 0
  | some _ => 1
theorem c_end {w : Wd} {o : Option Tup} (ho : ∀ b m f l, o = some (b, m, f, l) → f < 2 ^ 31) : f_X2_search_b152 (wS w o) = some (fnd o, wS w o) := by
  unfold f_X2_search_b152 f_X2_search_b167
  rw [wS_5]
  cases o with
  | none => rw [if_pos (show enc (Option.map (fun t : Tup => t.2.2.1) none) = -10001 from rfl)]; rfl
  | some t =>
    obtain ⟨b, m, f, l⟩ := t
    rw [if_neg (show ¬ enc (Option.map (fun t : Tup => t.2.2.1) (some (b, m, f, l))) = -10001 from enc_none (n := f) (ho b m f l rfl))]; rfl
/-- one distance that fits -/
theorem c_fit {w : Wd} {c d : Nat} {x1 : Int32} (hv : VR (RC w 10)) (hd : d ≤ 9999) (hres : resC w c) {o : Option Tup} (ho : o = scan (fitS (RC w 10) c (Kx x1)) (misS (RC w 10) c (Kx x1)) d) (hf : fitS (RC w 10) c (Kx x1) d = true) (hfar : d ≤ tn (RC w 10 8)) (x2 : Int32) (n : Nat) :
    f_X2_search_b25 x1 x2 (n + 1) (lmC o) (nI d) (wS w o) = (match stB (fitS (RC w 10) c (Kx x1)) (misS (RC w 10) c (Kx x1)) d o with
      | none => none
      | some (b, m, f, l) => if x1 = -1 then (if nI l - nI f ≤ x2 then f_X2_search_b25 x1 x2 n (nI m) (nI (d + 1)) (wS w (some (b, m, f, l))) else f_X2_search_b152 (wS w (some (b, m, f, l)))) else (if nI m = 0 then f_X2_search_b152 (wS w (some (b, m, f, l))) else f_X2_search_b25 x1 x2 n (nI m) (nI (d + 1)) (wS w (some (b, m, f, l))))) := by
  obtain ⟨h81, h82, h83⟩ := VR_8 hv
  have hmi := misS_lt hv (c := c) (d := d) (Kx x1)
  have hmi2 : misS (RC w 10) c (Kx x1) d < 2147483647 := by
    have h0 := awS_lt hv (c := c) (d := d) (k := 0) (by omega)
    have h1 := awS_lt hv (c := c) (d := d) (k := 1) (by omega)
    have h2 := awS_lt hv (c := c) (d := d) (k := 2) (by omega)
    have q0 : awS (RC w 10) c 0 d * awS (RC w 10) c 0 d ≤ 2000 * 2000 := Nat.mul_le_mul (by omega) (by omega)
    have q1 : awS (RC w 10) c 1 d * awS (RC w 10) c 1 d ≤ 2000 * 2000 := Nat.mul_le_mul (by omega) (by omega)
    have q2 : awS (RC w 10) c 2 d * awS (RC w 10) c 2 d ≤ 2000 * 2000 := Nat.mul_le_mul (by omega) (by omega)
    unfold misS
    split <;> split <;> split <;> omega
  have h12 : (wS w o).1 12 3 = RC w 10 8 := by rw [wS_c _ _ (by decide)]; exact RC_s10 (k := 3) (by omega)
  have hresS : resC (wS w o) c := by intro k hk; rw [wS_c _ _ (by decide), wS_RC]; exact hres k hk
  have hvS : VR (RC (wS w o) 10) := by rw [wS_RC]; exact hv
  conv => lhs; rw [f_X2_search_b25]
  rw [if_pos (i_l (by omega) (by omega)), n_cll (by omega), h12, h81, if_neg (fun q => by have := (c_lt (by omega) (by omega)).mp q; omega), c_wgap hvS (by omega) hresS, bind_s, wS_RC, (wg_fit hv (Kx x1)).mpr hf, if_pos (by decide), c_mis hvS (by omega) hresS, bind_s, wS_RC]
  unfold stB
  rw [if_pos hf]
  unfold f_X2_search_b89 f_X2_search_b109 f_X2_search_b146
  simp only [wput_eq, a_al]
  cases o with
  | none =>
    rw [if_neg (show ¬ lmC none ≤ nI (misS (RC w 10) c (Kx x1) d) from fun q => by have h9 : 2147483647 ≤ misS (RC w 10) c (Kx x1) d := (c_lle (n := 2147483647) (by decide) hmi).mp q; omega)]
    have e5 : (wset (wS w none) 1 7 (nI d)).1 1 5 = -10001 := by rw [ws_k _ _ (by decide)]; exact ws_same ..
    rw [if_pos e5]
    have e : wset (wset (wset (wS w none) 1 7 (nI d)) 1 5 (nI d)) 1 6 (nI d) = wS w (some (d, misS (RC w 10) c (Kx x1) d, d, d)) := w3_n w _ _
    rw [e]
    have f6 : (wS w (some (d, misS (RC w 10) c (Kx x1) d, d, d))).1 1 6 = nI d := by unfold wS; simp only; rw [ws_k _ _ (by decide), ws_same]
    rw [f6, wS_5]
    rfl
  | some t =>
    obtain ⟨b, m, f, l⟩ := t
    have hs := scan_ok d ho.symm
    have hm : m < 2 ^ 31 := by rw [hs.2.2.2]; exact misS_lt hv (Kx x1)
    have n5 : (wS w (some (b, m, f, l))).1 1 5 = nI f := wS_5 ..
    by_cases hlt : misS (RC w 10) c (Kx x1) d < m
    · rw [if_neg (show ¬ lmC (some (b, m, f, l)) ≤ nI (misS (RC w 10) c (Kx x1) d) from fun q => by have := (c_le hm hmi).mp q; omega)]
      have e5 : (wset (wS w (some (b, m, f, l))) 1 7 (nI d)).1 1 5 = nI f := by rw [ws_k _ _ (by decide)]; exact n5
      rw [if_neg (by rw [e5]; exact enc_none (by omega)), e5]
      have e : wset (wset (wset (wS w (some (b, m, f, l))) 1 7 (nI d)) 1 5 (nI f)) 1 6 (nI d) = wS w (some (d, misS (RC w 10) c (Kx x1) d, f, d)) := w3_a w _ _ _ _ _
      rw [e]
      have f6 : (wS w (some (d, misS (RC w 10) c (Kx x1) d, f, d))).1 1 6 = nI d := by unfold wS; simp only; rw [ws_k _ _ (by decide), ws_same]
      rw [f6, wS_5]
      simp only [if_pos hlt]
      rfl
    · rw [if_pos (show lmC (some (b, m, f, l)) ≤ nI (misS (RC w 10) c (Kx x1) d) from (c_le hm hmi).mpr (by omega))]
      rw [if_neg (by rw [n5]; exact enc_none (by omega)), n5]
      have e : wset (wset (wS w (some (b, m, f, l))) 1 5 (nI f)) 1 6 (nI d) = wS w (some (b, m, f, d)) := w3_b w _ _ _ _
      rw [e]
      have f6 : (wS w (some (b, m, f, d))).1 1 6 = nI d := by unfold wS; simp only; rw [ws_k _ _ (by decide), ws_same]
      rw [f6, wS_5]
      simp only [if_neg hlt]
      rfl
