/-- the scan of all distances of some rates -/
def scS (r : Row) (c : Nat) (K : Nat → Bool) : Option (Nat × Nat × Nat × Nat) := scan (fitS r c K) (misS r c K) (tn (r 8) + 1)
def wB (w : Wd) (o : Option (Nat × Nat × Nat × Nat)) : Wd := wset (wset w 0 12 (enc (o.map (fun t => t.2.2.1)))) 0 13 (enc (o.map (fun t => t.2.2.2)))
def stB (fit : Nat → Bool) (mis : Nat → Nat) (n : Nat) (o : Option (Nat × Nat × Nat × Nat)) : Option (Nat × Nat × Nat × Nat) := if fit n then (match o with
    | none => some (n, mis n, n, n)
    | some (b, m, f, _) => if mis n < m then some (n, mis n, f, n) else some (b, m, f, n)) else o
theorem scan_step (fit : Nat → Bool) (mis : Nat → Nat) (n : Nat) : scan fit mis (n + 1) = stB fit mis n (scan fit mis n) := rfl
theorem fold_scan (fit : Nat → Bool) (mis : Nat → Nat) : ∀ n, foldN (stB fit mis) n 0 none = scan fit mis n
  | 0 => rfl
  | n + 1 => by rw [foldN_succ, fold_scan fit mis n, Nat.zero_add, scan_step]
theorem RM_wset0 (w : Wd) (k : Nat) (v : Int32) : RM (wset w 0 k v) = RM w := by
  funext j
  unfold RM
  rw [ws_c w v (by decide)]
theorem RM_wset6 (w : Wd) (k : Nat) (v : Int32) : RM (wset w 6 k v) = RM w := by
  funext j
  unfold RM
  rw [ws_c w v (by decide)]
theorem RM_wB (w : Wd) (o : Option (Nat × Nat × Nat × Nat)) : RM (wB w o) = RM w := by unfold wB; rw [RM_wset0, RM_wset0]
theorem wB_6 (w : Wd) (o : Option (Nat × Nat × Nat × Nat)) : (wB w o).1 6 = w.1 6 := by unfold wB; rw [ws_c _ _ (by decide), ws_c _ _ (by decide)]
theorem wB_12 (w : Wd) (o : Option (Nat × Nat × Nat × Nat)) : (wB w o).1 0 12 = enc (o.map (fun t => t.2.2.1)) := by unfold wB; rw [ws_k _ _ (by decide), ws_same]
theorem wB_13 (w : Wd) (o : Option (Nat × Nat × Nat × Nat)) : (wB w o).1 0 13 = enc (o.map (fun t => t.2.2.2)) := by unfold wB; rw [ws_same]
theorem wB_set (w : Wd) (o : Option (Nat × Nat × Nat × Nat)) (a b : Int32) : wset (wset (wB w o) 0 12 a) 0 13 b = wset (wset w 0 12 a) 0 13 b := by
  unfold wB
  rw [ws_comm _ _ a (by decide), ws_ws, ws_ws]
def mfC (o : Option (Nat × Nat × Nat × Nat)) : Int32 := match o with
  | none => 0
  | some (_, m, _, _) => nI m
theorem misS_lt {r : Row} (hv : VR r) {c d : Nat} (K : Nat → Bool) : misS r c K d < 2 ^ 31 := by
  have h0 := awS_lt hv (c := c) (d := d) (k := 0) (by omega)
  have h1 := awS_lt hv (c := c) (d := d) (k := 1) (by omega)
  have h2 := awS_lt hv (c := c) (d := d) (k := 2) (by omega)
  have q0 : awS r c 0 d * awS r c 0 d ≤ 2000 * 2000 := Nat.mul_le_mul (by omega) (by omega)
  have q1 : awS r c 1 d * awS r c 1 d ≤ 2000 * 2000 := Nat.mul_le_mul (by omega) (by omega)
  have q2 : awS r c 2 d * awS r c 2 d ≤ 2000 * 2000 := Nat.mul_le_mul (by omega) (by omega)
  unfold misS
  split <;> split <;> split <;> omega
theorem m_step {w : Wd} {c d : Nat} (hv : VR (RM w)) (hd : d ≤ 9999) (hres : ∀ k, k < 3 → w.1 6 k = rsS (RM w) c k) (mask : Int32) {o : Option (Nat × Nat × Nat × Nat)} (ho : o = scan (fitS (RM w) c (Kma mask)) (misS (RM w) c (Kma mask)) d) (hfar : d ≤ tn (RM w 8)) (n : Nat) :
    f_X6_bestOf_b23 mask (n + 1) (enc (o.map (fun t => t.1))) (mfC o) (nI d) (wB w o) = f_X6_bestOf_b23 mask n (enc ((stB (fitS (RM w) c (Kma mask)) (misS (RM w) c (Kma mask)) d o).map (fun t => t.1))) (mfC (stB (fitS (RM w) c (Kma mask)) (misS (RM w) c (Kma mask)) d o)) (nI (d + 1)) (wB w (stB (fitS (RM w) c (Kma mask)) (misS (RM w) c (Kma mask)) d o)) := by
  obtain ⟨h81, h82, h83⟩ := VR_8 hv
  have hmi := misS_lt hv (c := c) (d := d) (Kma mask)
  conv => lhs; rw [f_X6_bestOf_b23]
  rw [if_pos (i_l (by omega) (by omega)), n_cll (by omega), RM_at (by omega), RM_wB, h81, if_neg (fun q => by have := (c_lt (by omega) (by omega)).mp q; omega),
    m_inner (c := c) (by rw [RM_wB]; exact hv) hd (by rw [RM_wB, wB_6]; exact hres), RM_wB]
  unfold stB
  by_cases hf : fitS (RM w) c (Kma mask) d = true
  · rw [if_pos hf, if_pos hf]
    unfold f_X6_bestOf_b122 f_X6_bestOf_b147 f_X6_bestOf_b169 f_X6_bestOf_b175
    simp only [wput_eq, a_al]
    rw [if_neg (by decide), wB_12]
    cases o with
    | none =>
      rw [if_pos (show enc (Option.map (fun t : Nat × Nat × Nat × Nat => t.2.2.1) none) = -10001 from rfl), if_pos (show enc (Option.map (fun t : Nat × Nat × Nat × Nat => t.1) none) = -10001 from rfl), wB_set]
      rfl
    | some t =>
      obtain ⟨b, m, f, l⟩ := t
      have hs := scan_ok d ho.symm
      have hm : m < 2 ^ 31 := by rw [hs.2.2.2]; exact misS_lt hv (Kma mask)
      rw [if_neg (show ¬ enc (Option.map (fun t : Nat × Nat × Nat × Nat => t.2.2.1) (some (b, m, f, l))) = -10001 from enc_none (n := f) (by omega)), if_neg (show ¬ enc (Option.map (fun t : Nat × Nat × Nat × Nat => t.1) (some (b, m, f, l))) = -10001 from enc_none (n := b) (by omega)), wB_set]
      show (if nI m ≤ nI (misS (RM w) c (Kma mask) d) then _ else _) = _
      by_cases hlt : misS (RM w) c (Kma mask) d < m
      · rw [if_neg (fun q => by have := (c_le hm hmi).mp q; omega)]
        simp only [if_pos hlt]
        rfl
      · rw [if_pos ((c_le hm hmi).mpr (by omega))]
        simp only [if_neg hlt]
        rfl
  · rw [if_neg hf, if_neg hf]
theorem m_best {w : Wd} {c : Nat} (hv : VR (RM w)) (hres : ∀ k, k < 3 → w.1 6 k = rsS (RM w) c k) (mask : Int32) :
    f_X6_bestOf mask w = some (enc ((scS (RM w) c (Kma mask)).map (fun t => t.1)), wB w (scS (RM w) c (Kma mask))) := by
  obtain ⟨h81, h82, h83⟩ := VR_8 hv
  have := (loopF (fun n (o : Option (Nat × Nat × Nat × Nat)) i => f_X6_bestOf_b23 mask n (enc (o.map (fun t => t.1))) (mfC o) i (wB w o)) (stB (fitS (RM w) c (Kma mask)) (misS (RM w) c (Kma mask))) (fun o => some (enc (o.map (fun t => t.1)), wB w o)) (tn (RM w 8) + 1)
    (fun j o => o = scan (fitS (RM w) c (Kma mask)) (misS (RM w) c (Kma mask)) j) (by omega)
    (fun m o _ => by
      show f_X6_bestOf_b23 mask (m + 1) _ _ (nI (tn (RM w 8) + 1)) _ = _
      rw [f_X6_bestOf_b23, if_pos (i_l (by omega) (by omega)), n_cll (by omega), RM_at (by omega), RM_wB, if_pos]
      rw [h81, tn_n (by omega)]
      exact (c_lt (by omega) (by omega)).mpr (by omega))
    (fun m j o hj ho => ⟨by rw [scan_step, ← ho], m_step hv (by omega) hres mask ho (by omega) m⟩) none rfl).1
  rw [fold_scan] at this
  unfold f_X6_bestOf
  simp only [wput_eq]
  exact this
