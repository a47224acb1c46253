/-! WHAT THE DOCUMENT'S WORDS ARE, over a row of 395 ints: 0 width, 1 height, 2 3 4 waves, 5 .. 10 settings, from 11 on samples -/
abbrev Row : Type := Nat → Int32
def rg (x : Int32) (a b : Nat) : Prop := ∃ n : Nat, a ≤ n ∧ n ≤ b ∧ x = nI n
def VR (r : Row) : Prop := rg (r 0) 1 4 ∧ rg (r 1) 1 4 ∧ (∀ k, k < 3 → rg (r (2 + k)) 10 2000) ∧ rg (r 5) 0 50 ∧ rg (r 6) 0 2000 ∧ rg (r 7) 1 4095 ∧ rg (r 8) 100 9999 ∧ rg (r 9) 1 500 ∧ rg (r 10) 0 500 ∧ (∀ j, j < 384 → rg (r (11 + j)) 0 4095)
def RC (w : Wd) (b : Nat) : Row := fun k => if k = 0 then w.1 b 0 else if k = 1 then w.1 b 1 else if k < 5 then w.1 (b + 1) (k - 2) else if k < 11 then w.1 (b + 2) (k - 5) else if k < 395 then w.1 (b + 3) (k - 11) else 0
def RM (w : Wd) : Row := fun k => if k < 395 then w.1 1 k else 0
theorem RM_at {w : Wd} {k : Nat} (h : k < 395) : w.1 1 k = RM w k := by unfold RM; rw [if_pos h]
theorem RC_0 (w : Wd) (b : Nat) : w.1 b 0 = RC w b 0 := rfl
theorem RC_1 (w : Wd) (b : Nat) : w.1 b 1 = RC w b 1 := rfl
theorem RC_w {w : Wd} {b k : Nat} (h : k < 3) : w.1 (b + 1) k = RC w b (2 + k) := by
  unfold RC
  rw [if_neg (by omega), if_neg (by omega), if_pos (by omega), show 2 + k - 2 = k by omega]
theorem RC_s {w : Wd} {b k : Nat} (h : k < 6) : w.1 (b + 2) k = RC w b (5 + k) := by
  unfold RC
  rw [if_neg (by omega), if_neg (by omega), if_neg (by omega), if_pos (by omega), show 5 + k - 5 = k by omega]
theorem RC_m {w : Wd} {b k : Nat} (h : k < 384) : w.1 (b + 3) k = RC w b (11 + k) := by
  unfold RC
  rw [if_neg (by omega), if_neg (by omega), if_neg (by omega), if_neg (by omega), if_pos (by omega), show 11 + k - 11 = k by omega]
theorem RC_w10 {w : Wd} {k : Nat} (h : k < 3) : w.1 11 k = RC w 10 (2 + k) := RC_w (b := 10) h
theorem RC_s10 {w : Wd} {k : Nat} (h : k < 6) : w.1 12 k = RC w 10 (5 + k) := RC_s (b := 10) h
theorem RC_m10 {w : Wd} {k : Nat} (h : k < 384) : w.1 13 k = RC w 10 (11 + k) := RC_m (b := 10) h
abbrev okC (r : Row) (e x y : Int32) : Prop := ((0 : Int32) ≤ e ∧ e ≤ 1) ∧ ((0 : Int32) ≤ x ∧ x ≤ r 0 - 1) ∧ ((0 : Int32) ≤ y ∧ y ≤ r 1 - 1)
/-- the place of a cell's first sample, by the cell's number -/
abbrev pos (c : Nat) : Nat := 11 + 12 * c
theorem okC_nat {r : Row} {e x y : Int32} (hv : VR r) (h : okC r e x y) : ∃ en xn yn : Nat, en < 2 ∧ xn < 4 ∧ yn < 4 ∧ (∃ W H : Nat, r 0 = nI W ∧ r 1 = nI H ∧ W ≤ 4 ∧ H ≤ 4 ∧ xn < W ∧ yn < H) ∧ e = nI en ∧ x = nI xn ∧ y = nI yn := by
  obtain ⟨⟨W, hW1, hW2, hW⟩, ⟨H, hH1, hH2, hH⟩, -⟩ := hv
  obtain ⟨⟨h1, h2⟩, ⟨h3, h4⟩, h5, h6⟩ := h
  rw [hW, a_sl (by omega)] at h4
  rw [hH, a_sl (by omega)] at h6
  obtain ⟨en, ha, rfl⟩ := of_range h1 h2 (by omega)
  obtain ⟨xn, hb, rfl⟩ := nI_of (x := x) (Int32.not_lt.mpr h3)
  obtain ⟨yn, hc, rfl⟩ := nI_of (x := y) (Int32.not_lt.mpr h5)
  rw [c_le (by omega) (by omega)] at h4 h6
  exact ⟨en, xn, yn, by omega, by omega, by omega, ⟨W, H, hW, hH, hW2, hH2, by omega, by omega⟩, rfl, rfl, rfl⟩
def ab (x : Int32) : Int32 := if 0 ≤ x then x else -x
def sX (r : Row) (p : Nat) : Int32 := r p - r (p + 2)
def sY (r : Row) (p : Nat) : Int32 := r (p + 1) - r (p + 3)
def sS (r : Row) (p : Nat) : Int32 := ab (sX r p) + ab (sY r p)
def sStr (r : Row) (p : Nat) : UInt32 := FP.fdiv (FP.i2f (sS r p)) FP.fconst2
def sQ (x y : Int32) : UInt32 := FP.fdiv (FP.i2f y) (FP.i2f (ab x + ab y))
def sPh (x y : Int32) : UInt32 := if ab x + ab y = 0 then 3212836864 else if 0 ≤ x then (if y < 0 then FP.fadd 1082130432 (sQ x y) else sQ x y) else FP.fsub FP.fconst2 (sQ x y)
def sPw (x y wv : Int32) : UInt32 := FP.fmul (sPh x y) (FP.i2f wv)
def sRes (x y wv : Int32) : Int32 := jrem (FP.f2i (FP.fadd (FP.fdiv (sPw x y wv) 1082130432) 1056964608)) wv
def sGlow (r : Row) (p : Nat) : UInt32 := FP.fadd (FP.fadd (sStr r p) (sStr r (p + 4))) (sStr r (p + 8))
/-- a difference of two samples -/
def dif (x : Int32) : Prop := ∃ a b : Nat, a ≤ 4095 ∧ b ≤ 4095 ∧ x = nI a - nI b
theorem dif_ab {x : Int32} (h : dif x) : ∃ n : Nat, n ≤ 4095 ∧ ab x = nI n ∧ (x = nI n ∨ x = -nI n) := by
  obtain ⟨a, b, ha, hb, rfl⟩ := h
  unfold ab
  by_cases hab : b ≤ a
  · refine ⟨a - b, by omega, ?_, Or.inl (pk_sub hab)⟩
    rw [pk_sub hab, if_pos (nI_pos' (by omega))]
  · have e : nI a - nI b = -nI (b - a) := by
      rw [← pk_sub (by omega : a ≤ b)]
      simp [Int32.neg_sub]
    refine ⟨b - a, by omega, ?_, Or.inr e⟩
    rw [if_neg (Int32.not_le.mpr (pk_sneg (by omega) (by omega))), e, Int32.neg_neg]
theorem VR_m {r : Row} (hv : VR r) {c j : Nat} (hc : c < 32) (hj : j < 12) : rg (r (pos c + j)) 0 4095 := by
  have := hv.2.2.2.2.2.2.2.2.2 (12 * c + j) (by omega)
  rw [show pos c + j = 11 + (12 * c + j) by unfold pos; omega]
  exact this
theorem dif_X {r : Row} (hv : VR r) {c k : Nat} (hc : c < 32) (hk : k < 3) : dif (sX r (pos c + 4 * k)) := by
  obtain ⟨a, -, ha, ea⟩ := VR_m hv hc (j := 4 * k) (by omega)
  obtain ⟨b, -, hb, eb⟩ := VR_m hv hc (j := 4 * k + 2) (by omega)
  exact ⟨a, b, ha, hb, by unfold sX; rw [ea, ← eb]; rfl⟩
theorem dif_Y {r : Row} (hv : VR r) {c k : Nat} (hc : c < 32) (hk : k < 3) : dif (sY r (pos c + 4 * k)) := by
  obtain ⟨a, -, ha, ea⟩ := VR_m hv hc (j := 4 * k + 1) (by omega)
  obtain ⟨b, -, hb, eb⟩ := VR_m hv hc (j := 4 * k + 3) (by omega)
  exact ⟨a, b, ha, hb, by unfold sY; rw [show pos c + 4 * k + 1 = pos c + (4 * k + 1) by omega, ea, show pos c + 4 * k + 3 = pos c + (4 * k + 3) by omega, ← eb]⟩
theorem sS_n {r : Row} (hv : VR r) {c k : Nat} (hc : c < 32) (hk : k < 3) : ∃ n : Nat, n ≤ 8190 ∧ sS r (pos c + 4 * k) = nI n := by
  obtain ⟨a, ha, ea, -⟩ := dif_ab (dif_X hv hc hk)
  obtain ⟨b, hb, eb, -⟩ := dif_ab (dif_Y hv hc hk)
  exact ⟨a + b, by omega, by unfold sS; rw [ea, eb, nI_add]⟩
