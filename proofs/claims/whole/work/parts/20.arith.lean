/-! NUMBERS: ints that are nI n, with literals -/
theorem a_al (a n : Nat) : nI a + (no_index (OfNat.ofNat n : Int32)) = nI (a + (OfNat.ofNat n : Nat)) := nI_add a n
theorem a_la (a n : Nat) : (no_index (OfNat.ofNat n : Int32)) + nI a = nI ((OfNat.ofNat n : Nat) + a) := nI_add n a
theorem a_ml (a n : Nat) : nI a * (no_index (OfNat.ofNat n : Int32)) = nI (a * (OfNat.ofNat n : Nat)) := pk_mul a n
theorem a_lm (a n : Nat) : (no_index (OfNat.ofNat n : Int32)) * nI a = nI ((OfNat.ofNat n : Nat) * a) := pk_mul n a
theorem a_sl {a n : Nat} (h : (OfNat.ofNat n : Nat) ≤ a) : nI a - (no_index (OfNat.ofNat n : Int32)) = nI (a - (OfNat.ofNat n : Nat)) := pk_sub h
theorem c_le {a b : Nat} (ha : a < 2 ^ 31) (hb : b < 2 ^ 31) : (nI a ≤ nI b) ↔ a ≤ b := nI_leI ha hb
theorem c_lt {a b : Nat} (ha : a < 2 ^ 31) (hb : b < 2 ^ 31) : (nI a < nI b) ↔ a < b := nI_ltI ha hb
theorem c_eq {a b : Nat} (ha : a < 2 ^ 31) (hb : b < 2 ^ 31) : (nI a = nI b) ↔ a = b := nI_eq ha hb
theorem c_lle {n a : Nat} (hn : (OfNat.ofNat n : Nat) < 2 ^ 31) (ha : a < 2 ^ 31) : ((no_index (OfNat.ofNat n : Int32)) ≤ nI a) ↔ (OfNat.ofNat n : Nat) ≤ a := nI_leI hn ha
theorem c_lel {n a : Nat} (hn : (OfNat.ofNat n : Nat) < 2 ^ 31) (ha : a < 2 ^ 31) : (nI a ≤ (no_index (OfNat.ofNat n : Int32))) ↔ a ≤ (OfNat.ofNat n : Nat) := nI_leI ha hn
theorem c_llt {n a : Nat} (hn : (OfNat.ofNat n : Nat) < 2 ^ 31) (ha : a < 2 ^ 31) : ((no_index (OfNat.ofNat n : Int32)) < nI a) ↔ (OfNat.ofNat n : Nat) < a := nI_ltI hn ha
theorem c_ltl {n a : Nat} (hn : (OfNat.ofNat n : Nat) < 2 ^ 31) (ha : a < 2 ^ 31) : (nI a < (no_index (OfNat.ofNat n : Int32))) ↔ a < (OfNat.ofNat n : Nat) := nI_ltI ha hn
theorem c_eql {n a : Nat} (hn : (OfNat.ofNat n : Nat) < 2 ^ 31) (ha : a < 2 ^ 31) : (nI a = (no_index (OfNat.ofNat n : Int32))) ↔ a = (OfNat.ofNat n : Nat) := nI_eq ha hn
theorem c_leq {n a : Nat} (hn : (OfNat.ofNat n : Nat) < 2 ^ 31) (ha : a < 2 ^ 31) : ((no_index (OfNat.ofNat n : Int32)) = nI a) ↔ (OfNat.ofNat n : Nat) = a := nI_eq hn ha
theorem n_cl {n : Nat} (h : n < 2 ^ 31) : (nI n).toNatClampNeg = n := nI_clamp h
theorem n_cll {n : Nat} (h : (OfNat.ofNat n : Nat) < 2 ^ 31) : (no_index (OfNat.ofNat n : Int32)).toNatClampNeg = (OfNat.ofNat n : Nat) := nI_clamp h
theorem i_n {n N : Nat} (h : n < N) (hN : N < 2 ^ 31) : inb (nI n) N = true := by
  unfold inb
  rw [nI_clamp (by omega)]
  simp only [Bool.and_eq_true, decide_eq_true_eq]
  exact ⟨nI_pos (by omega), h⟩
theorem i_l {n N : Nat} (h : (OfNat.ofNat n : Nat) < N) (hN : N < 2 ^ 31) : inb (no_index (OfNat.ofNat n : Int32)) N = true := i_n h hN
theorem g_t {τ : Type} {c : Prop} [Decidable c] {a b : Option τ} (h : c) : (if c then a else b) = a := if_pos h
theorem g_f {τ : Type} {c : Prop} [Decidable c] {a b : Option τ} (h : ¬ c) : (if c then a else b) = b := if_neg h
theorem wput_eq {τ : Type} (w : Wd) (c k : Nat) (v : Int32) (K : Wd → Option τ) : wput w c k v K = K (wset w c k v) := rfl
theorem wputf_eq {τ : Type} (w : Wd) (c : Nat) (f : Nat → Int32) (K : Wd → Option τ) : wputf w c f K = K (wfun w c f) := rfl
theorem wputl_eq {τ : Type} (w : Wd) (v : Int64) (K : Wd → Option τ) : wputl w v K = K (wlong w v) := rfl
theorem jlet_eq {α τ : Type} (x : α) (K : α → Option τ) : jlet x K = K x := rfl
theorem wset_1 (w : Wd) (c k : Nat) (v : Int32) (c' : Nat) : (wset w c k v).1 c' = if c' = c then upd (w.1 c) k v else w.1 c' := rfl
theorem wset_2 (w : Wd) (c k : Nat) (v : Int32) : (wset w c k v).2 = w.2 := rfl
theorem wfun_1 (w : Wd) (c : Nat) (f : Nat → Int32) (c' : Nat) : (wfun w c f).1 c' = if c' = c then f else w.1 c' := rfl
theorem wfun_2 (w : Wd) (c : Nat) (f : Nat → Int32) : (wfun w c f).2 = w.2 := rfl
theorem wlong_1 (w : Wd) (v : Int64) : (wlong w v).1 = w.1 := rfl
theorem wlong_2 (w : Wd) (v : Int64) : (wlong w v).2 = v := rfl
theorem upd_1 (f : Nat → Int32) (k : Nat) (v : Int32) (j : Nat) : upd f k v j = if j = k then v else f j := rfl
theorem zb_0 : zb 0 = true := rfl
theorem zb_1 : zb 1 = true := rfl
theorem bind_s {α β : Type} (a : α) (f : α → Option β) : (some a).bind f = f a := rfl
theorem n_1 : (1 : Int32) = 0 ↔ False := by decide
/-- an int between bounds is a small number -/
theorem of_range {x : Int32} {n : Nat} (h1 : (0 : Int32) ≤ x) (h2 : x ≤ (OfNat.ofNat n : Int32)) (hn : (OfNat.ofNat n : Nat) < 2 ^ 31) : ∃ k : Nat, k ≤ (OfNat.ofNat n : Nat) ∧ x = nI k := by
  obtain ⟨j, hj, rfl⟩ := nI_of (x := x) (fun q => by
    have a := Int32.lt_iff_toInt_lt.mp q
    have b := Int32.le_iff_toInt_le.mp h1
    omega)
  exact ⟨j, (c_lel hn hj).mp h2, rfl⟩
/-! small methods of both sides -/
theorem f_in (v a b : Int32) : f_X6_in v a b = some (if a ≤ v ∧ v ≤ b then 1 else 0) := by
  unfold f_X6_in f_X6_in_b14 f_X6_in_b15
  simp only [zb_0, zb_1, if_true]
  by_cases h1 : v < a
  · rw [if_pos h1, if_neg (show ¬ (a ≤ v ∧ v ≤ b) from fun q => absurd q.1 (Int32.not_le.mpr h1))]
  · rw [if_neg h1]
    by_cases h2 : b < v
    · rw [if_pos h2, if_neg (show ¬ (a ≤ v ∧ v ≤ b) from fun q => absurd q.2 (Int32.not_le.mpr h2))]
    · rw [if_neg h2, if_pos (show (a ≤ v ∧ v ≤ b) from ⟨Int32.not_lt.mp h1, Int32.not_lt.mp h2⟩)]
theorem f_within (v a b : Int32) : f_X5_within v a b = some (if a ≤ v ∧ v ≤ b then 1 else 0) := by
  rw [← f_in]
  rfl
theorem f_across {w : Wd} {p : Nat} (hp : p + 2 < 395) : f_X6_acrossOf (nI p) w = some (w.1 1 p - w.1 1 (p + 2)) := by
  unfold f_X6_acrossOf
  simp (disch := omega) only [a_al, i_n, n_cl, if_true, g_t]
