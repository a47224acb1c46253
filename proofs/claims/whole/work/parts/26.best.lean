/-! THE REFERENCE: bestOf -/
def Kma (mask : Int32) (k : Nat) : Bool := decide (((mask >>> (nI k &&& 31)) &&& 1) = 1)
theorem m_in3 {w : Wd} (mask x2 x3 x4 x5 x6 : Int32) (k23 : Int32 → Int32 → Int32 → Wd → Option (Int32 × Wd)) (n : Nat) : f_X6_bestOf_b44 mask x2 x3 x4 k23 (n + 1) x5 x6 (nI 3) w = f_X6_bestOf_b122 mask x2 x3 x4 x5 x6 k23 w := by
  rw [f_X6_bestOf_b44, if_pos (by decide)]
theorem m_in0 {w : Wd} (mask x2 x3 x4 x6 x7 : Int32) (k23 : Int32 → Int32 → Int32 → Wd → Option (Int32 × Wd)) (n : Nat) : f_X6_bestOf_b44 mask x2 x3 x4 k23 (n + 1) 0 x6 x7 w = f_X6_bestOf_b122 mask x2 x3 x4 0 x6 k23 w := by
  rw [f_X6_bestOf_b44, if_pos (rfl : (0 : Int32) = 0)]
  split <;> rfl
theorem m_in1 {w : Wd} {c d k m : Nat} (hv : VR (RM w)) (hd : d ≤ 9999) (hk : k < 3) (hres : w.1 6 k = rsS (RM w) c k) (mask x2 x3 : Int32) (k23 : Int32 → Int32 → Int32 → Wd → Option (Int32 × Wd)) (n : Nat) :
    f_X6_bestOf_b44 mask x2 x3 (nI d) k23 (n + 1) 1 (nI m) (nI k) w = if Kma mask k then (if awS (RM w) c k d ≤ tn (RM w 5) then f_X6_bestOf_b44 mask x2 x3 (nI d) k23 n 1 (nI (m + awS (RM w) c k d * awS (RM w) c k d)) (nI (k + 1)) w else f_X6_bestOf_b44 mask x2 x3 (nI d) k23 n 0 (nI (m + awS (RM w) c k d * awS (RM w) c k d)) (nI (k + 1)) w) else f_X6_bestOf_b44 mask x2 x3 (nI d) k23 n 1 (nI m) (nI (k + 1)) w := by
  obtain ⟨hw1, hw2, hw3⟩ := VR_w hv hk
  obtain ⟨h51, h52, h53⟩ := VR_5 hv
  have haw := awS_lt hv (c := c) (d := d) hk
  conv => lhs; rw [f_X6_bestOf_b44]
  rw [if_neg (fun q => by have := (c_lle (by omega) (by omega)).mp q; omega), if_neg (by decide)]
  unfold f_X6_bestOf_b104 f_X6_bestOf_b116
  simp only [jlet_eq, a_la, a_al]
  by_cases hK : ((mask >>> (nI k &&& 31)) &&& 1) = 1
  · rw [if_pos hK, if_pos (i_n (by omega) (by omega)), if_pos (i_n (by omega) (by omega)), n_cl (by omega), n_cl (by omega), hres, RM_at (by omega), hw1, m_awayN (by omega) (by omega) hw3 (rs_lt hv hk), bind_s, if_pos (i_l (by omega) (by omega)), n_cll (by omega), RM_at (by omega), h51]
    have e : awN d (rsS (RM w) c k) (tn (RM w (2 + k))) = awS (RM w) c k d := rfl
    rw [e, pk_mul, nI_add, if_pos (show Kma mask k = true by unfold Kma; simp only [decide_eq_true_eq]; exact hK)]
    by_cases hf : awS (RM w) c k d ≤ tn (RM w 5)
    · rw [if_neg (fun q => by have := (c_lt (by omega) (by omega)).mp q; omega), if_pos (by rw [tn_n (by omega)]; exact hf)]
    · rw [if_pos ((c_lt (by omega) (by omega)).mpr (by omega)), if_neg (by rw [tn_n (by omega)]; exact hf)]
  · rw [if_neg hK, if_neg (show ¬ Kma mask k = true by unfold Kma; simp only [decide_eq_true_eq]; exact hK)]
theorem FUEL4 : FUEL = 19996 + 1 + 1 + 1 + 1 := rfl
theorem m_b122_0 {w : Wd} (mask x2 x3 x6 : Int32) (d : Nat) (k23 : Int32 → Int32 → Int32 → Wd → Option (Int32 × Wd)) : f_X6_bestOf_b122 mask x2 x3 (nI d) 0 x6 k23 w = k23 x2 x3 (nI (d + 1)) w := by
  unfold f_X6_bestOf_b122 f_X6_bestOf_b175
  rw [if_pos rfl, a_al]
theorem m_inner {w : Wd} {c d : Nat} (hv : VR (RM w)) (hd : d ≤ 9999) (hres : ∀ k, k < 3 → w.1 6 k = rsS (RM w) c k) (mask x2 x3 : Int32) (k23 : Int32 → Int32 → Int32 → Wd → Option (Int32 × Wd)) :
    f_X6_bestOf_b44 mask x2 x3 (nI d) k23 FUEL 1 0 0 w = if fitS (RM w) c (Kma mask) d then f_X6_bestOf_b122 mask x2 x3 (nI d) 1 (nI (misS (RM w) c (Kma mask) d)) k23 w else k23 x2 x3 (nI (d + 1)) w := by
  rw [FUEL4, show (0 : Int32) = nI 0 from rfl, m_in1 hv hd (by omega) (hres 0 (by omega)), m_in1 hv hd (by omega) (hres 1 (by omega)), m_in0, m_in1 hv hd (by omega) (hres 1 (by omega))]
  simp only [Nat.zero_add, Nat.reduceAdd]
  rw [m_in0, m_in1 hv hd (by omega) (hres 2 (by omega)), m_in1 hv hd (by omega) (hres 2 (by omega)), m_in1 hv hd (by omega) (hres 2 (by omega)), m_in1 hv hd (by omega) (hres 2 (by omega))]
  simp only [Nat.zero_add, Nat.reduceAdd]
  simp only [m_in0, m_in3, m_b122_0]
  unfold fitS misS
  by_cases k0 : Kma mask 0 = true <;> by_cases k1 : Kma mask 1 = true <;> by_cases k2 : Kma mask 2 = true <;>
    by_cases f0 : awS (RM w) c 0 d ≤ tn (RM w 5) <;> by_cases f1 : awS (RM w) c 1 d ≤ tn (RM w 5) <;> by_cases f2 : awS (RM w) c 2 d ≤ tn (RM w 5) <;> simp [k0, k1, k2, f0, f1, f2]
