/-! WORLDS, WRITTEN MORE THAN ONCE -/
theorem wd_ext {w v : Wd} (h1 : ∀ c k, w.1 c k = v.1 c k) (h2 : w.2 = v.2) : w = v := Prod.ext (funext fun c => funext fun k => h1 c k) h2
theorem ws_at (w : Wd) (c k : Nat) (v : Int32) (c' k' : Nat) : (wset w c k v).1 c' k' = if c' = c ∧ k' = k then v else w.1 c' k' := by
  rw [wset_1]
  by_cases h : c' = c
  · subst h
    rw [if_pos rfl, upd_1]
    by_cases h2 : k' = k
    · rw [if_pos h2, if_pos ⟨rfl, h2⟩]
    · rw [if_neg h2, if_neg (fun q => h2 q.2)]
  · rw [if_neg h, if_neg (fun q => h q.1)]
theorem ws_same (w : Wd) (c k : Nat) (v : Int32) : (wset w c k v).1 c k = v := by rw [ws_at, if_pos ⟨rfl, rfl⟩]
theorem ws_k {c k c' k' : Nat} (w : Wd) (v : Int32) (h : ¬ (c' = c ∧ k' = k)) : (wset w c k v).1 c' k' = w.1 c' k' := by rw [ws_at, if_neg h]
theorem ws_c {c k c' : Nat} (w : Wd) (v : Int32) (h : c' ≠ c) : (wset w c k v).1 c' = w.1 c' := by rw [wset_1, if_neg h]
theorem ws_ws (w : Wd) (c k : Nat) (v v' : Int32) : wset (wset w c k v) c k v' = wset w c k v' := by
  refine wd_ext (fun a b => ?_) rfl
  rw [ws_at, ws_at, ws_at]
  split <;> rfl
theorem ws_comm {c k c' k' : Nat} (w : Wd) (v v' : Int32) (h : ¬ (c = c' ∧ k = k')) : wset (wset w c k v) c' k' v' = wset (wset w c' k' v') c k v := by
  refine wd_ext (fun a b => ?_) rfl
  rw [ws_at, ws_at, ws_at, ws_at]
  by_cases h1 : a = c' ∧ b = k'
  · rw [if_pos h1, if_neg (fun q => h ⟨q.1.symm.trans h1.1, q.2.symm.trans h1.2⟩), if_pos h1]
  · rw [if_neg h1, if_neg h1]
theorem ws_id (w : Wd) (c k : Nat) : wset w c k (w.1 c k) = w := by
  refine wd_ext (fun a b => ?_) rfl
  rw [ws_at]
  by_cases h : a = c ∧ b = k
  · rw [if_pos h, h.1, h.2]
  · rw [if_neg h]
/-! THE DISTANCES THAT FIT -/
abbrev tn (x : Int32) : Nat := x.toNatClampNeg
def rsS (r : Row) (c k : Nat) : Int32 := sRes (sX r (pos c + 4 * k)) (sY r (pos c + 4 * k)) (r (2 + k))
def awS (r : Row) (c k d : Nat) : Nat := awN d (rsS r c k) (tn (r (2 + k)))
def fitS (r : Row) (c : Nat) (K : Nat → Bool) (d : Nat) : Bool := (!K 0 || decide (awS r c 0 d ≤ tn (r 5))) && (!K 1 || decide (awS r c 1 d ≤ tn (r 5))) && (!K 2 || decide (awS r c 2 d ≤ tn (r 5)))
def misS (r : Row) (c : Nat) (K : Nat → Bool) (d : Nat) : Nat := (if K 0 then awS r c 0 d * awS r c 0 d else 0) + (if K 1 then awS r c 1 d * awS r c 1 d else 0) + (if K 2 then awS r c 2 d * awS r c 2 d else 0)
/-- best, its misfit, the first, the last of those below n -/
def scan (fit : Nat → Bool) (mis : Nat → Nat) : Nat → Option (Nat × Nat × Nat × Nat)
  | 0 => none
  | n + 1 => if fit n then (match scan fit mis n with
    | none => some (n, mis n, n, n)
    | some (b, m, f, _) => if mis n < m then some (n, mis n, f, n) else some (b, m, f, n)) else scan fit mis n
theorem scan_no {fit : Nat → Bool} {mis : Nat → Nat} {n : Nat} (h : fit n = false) : scan fit mis (n + 1) = scan fit mis n := by
  rw [scan, h]; rfl
theorem scan_skip {fit : Nat → Bool} {mis : Nat → Nat} {a : Nat} : ∀ (k : Nat), (∀ j, j < k → fit (a + j) = false) → scan fit mis (a + k) = scan fit mis a
  | 0, _ => rfl
  | k + 1, h => by
    rw [show a + (k + 1) = (a + k) + 1 by omega, scan_no (h k (by omega))]
    exact scan_skip k (fun j hj => h j (by omega))
theorem scan_ok {fit : Nat → Bool} {mis : Nat → Nat} : ∀ (n : Nat) {b m f l : Nat}, scan fit mis n = some (b, m, f, l) → f ≤ b ∧ b ≤ l ∧ l < n ∧ m = mis b
  | 0, _, _, _, _, h => by cases h
  | n + 1, b, m, f, l, h => by
    rw [scan] at h
    by_cases hf : fit n = true
    · rw [hf, if_pos rfl] at h
      cases hs : scan fit mis n with
      | none =>
        rw [hs] at h
        simp only [Option.some.injEq, Prod.mk.injEq] at h
        obtain ⟨rfl, rfl, rfl, rfl⟩ := h
        exact ⟨Nat.le_refl _, Nat.le_refl _, by omega, rfl⟩
      | some t =>
        obtain ⟨b0, m0, f0, l0⟩ := t
        have := scan_ok n hs
        rw [hs] at h
        simp only at h
        by_cases hm : mis n < m0
        · rw [if_pos hm] at h
          simp only [Option.some.injEq, Prod.mk.injEq] at h
          obtain ⟨rfl, rfl, rfl, rfl⟩ := h
          exact ⟨by omega, Nat.le_refl _, by omega, rfl⟩
        · rw [if_neg hm] at h
          simp only [Option.some.injEq, Prod.mk.injEq] at h
          obtain ⟨rfl, rfl, rfl, rfl⟩ := h
          exact ⟨by omega, by omega, by omega, by omega⟩
    · rw [Bool.not_eq_true] at hf
      rw [hf] at h
      have := scan_ok n (h : scan fit mis n = some (b, m, f, l))
      omega
/-- later ones: the first stays, the last doesn't fall, the misfit doesn't rise; where it is 0, the best stays -/
theorem scan_mono {fit : Nat → Bool} {mis : Nat → Nat} {n : Nat} {b m f l : Nat} (h : scan fit mis n = some (b, m, f, l)) : ∀ (k : Nat), ∃ b' m' l', scan fit mis (n + k) = some (b', m', f, l') ∧ l ≤ l' ∧ (m = 0 → b' = b)
  | 0 => ⟨b, m, l, h, Nat.le_refl _, fun _ => rfl⟩
  | k + 1 => by
    obtain ⟨b', m', l', h1, h2, h3⟩ := scan_mono h k
    have h4 := scan_ok _ h1
    rw [show n + (k + 1) = (n + k) + 1 by omega, scan, h1]
    have hn := scan_ok _ h
    have hm0 : m = 0 → m' = 0 := fun q => by rw [h4.2.2.2, h3 q, ← hn.2.2.2]; exact q
    by_cases hf : fit (n + k) = true
    · rw [if_pos hf]
      simp only
      by_cases hm : mis (n + k) < m'
      · rw [if_pos hm]
        exact ⟨_, _, _, rfl, by omega, fun q => by have := hm0 q; omega⟩
      · rw [if_neg hm]
        exact ⟨_, _, _, rfl, by omega, h3⟩
    · rw [if_neg hf]
      exact ⟨b', m', l', rfl, h2, h3⟩
def enc (o : Option Nat) : Int32 := match o with
  | none => -10001
  | some n => nI n
theorem enc_none {n : Nat} (h : n < 2 ^ 31) : ¬ nI n = -10001 := fun q => by
  have := congrArg Int32.toInt q
  rw [toI_n h] at this
  have e : (-10001 : Int32).toInt = -10001 := by decide
  omega
theorem enc_eq {o : Option Nat} (h : ∀ n, o = some n → n < 2 ^ 31) : (enc o = -10001) ↔ o = none := by
  cases o with
  | none => exact ⟨fun _ => rfl, fun _ => rfl⟩
  | some n => exact ⟨fun q => absurd q (enc_none (h n rfl)), fun q => by cases q⟩
/-! what a valid row gives -/
theorem tn_n {n : Nat} (h : n < 2 ^ 31) : tn (nI n) = n := nI_clamp h
theorem VR_w {r : Row} (hv : VR r) {k : Nat} (hk : k < 3) : r (2 + k) = nI (tn (r (2 + k))) ∧ 10 ≤ tn (r (2 + k)) ∧ tn (r (2 + k)) ≤ 2000 := by
  obtain ⟨n, h1, h2, h3⟩ := hv.2.2.1 k hk
  rw [h3, tn_n (by omega)]
  exact ⟨rfl, h1, h2⟩
theorem rg_n {x : Int32} {a b : Nat} (h : rg x a b) (hb : b < 2 ^ 31) : x = nI (tn x) ∧ a ≤ tn x ∧ tn x ≤ b := by
  obtain ⟨n, h1, h2, h3⟩ := h
  rw [h3, tn_n (by omega)]
  exact ⟨rfl, h1, h2⟩
theorem VR_5 {r : Row} (hv : VR r) : r 5 = nI (tn (r 5)) ∧ 0 ≤ tn (r 5) ∧ tn (r 5) ≤ 50 := rg_n hv.2.2.2.1 (by omega)
theorem VR_8 {r : Row} (hv : VR r) : r 8 = nI (tn (r 8)) ∧ 100 ≤ tn (r 8) ∧ tn (r 8) ≤ 9999 := rg_n hv.2.2.2.2.2.2.1 (by omega)
theorem VR_9 {r : Row} (hv : VR r) : r 9 = nI (tn (r 9)) ∧ 1 ≤ tn (r 9) ∧ tn (r 9) ≤ 500 := rg_n hv.2.2.2.2.2.2.2.1 (by omega)
theorem rs_lt {r : Row} (hv : VR r) {c k : Nat} (hk : k < 3) : -(tn (r (2 + k)) : Int) < (rsS r c k).toInt ∧ (rsS r c k).toInt < tn (r (2 + k)) := by
  obtain ⟨h1, h2, h3⟩ := VR_w hv hk
  unfold rsS sRes
  generalize FP.f2i _ = z
  have := jrem_lt (x := z) (n := tn (r (2 + k))) (by omega) (by omega)
  rw [← h1] at this
  exact this
theorem awS_lt {r : Row} (hv : VR r) {c k d : Nat} (hk : k < 3) : awS r c k d < 2000 := by
  obtain ⟨h1, h2, h3⟩ := VR_w hv hk
  have := awN_lt (d := d) (r := rsS r c k) (n := tn (r (2 + k))) (by omega)
  unfold awS
  omega
