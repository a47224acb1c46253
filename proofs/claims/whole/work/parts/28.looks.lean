/-! THE MARK OF A CELL -/
def omin (a d : Option Nat) : Option Nat := match a, d with
  | a, none => a
  | none, some d => some d
  | some a, some d => some (if d < a then d else a)
def omax (a d : Option Nat) : Option Nat := match a, d with
  | a, none => a
  | none, some d => some d
  | some a, some d => some (if a < d then d else a)
def brS (r : Row) (c : Nat) : Bool := decide (0 < cntS r c (r 7))
def dk1 (r : Row) (c k : Nat) : Bool := decide (sS r (pos c + 4 * k) = 0) || decide (¬ 0 ≤ fcg (sStr r (pos c + 4 * k)) (FP.i2f (r 6)))
def dkS (r : Row) (c : Nat) : Bool := dk1 r c 0 || dk1 r c 1 || dk1 r c 2
def bstS (r : Row) (c : Nat) (K : Nat → Bool) : Option Nat := (scS r c K).map (fun t => t.1)
abbrev Kall : Nat → Bool := fun _ => true
abbrev Kno (j : Nat) : Nat → Bool := fun k => decide (k ≠ j)
/-- mark, distance, near, beyond -/
def lkS (r : Row) (c : Nat) : Nat × Option Nat × Option Nat × Option Nat :=
  if brS r c then (1, none, none, none) else if dkS r c then (2, none, none, none) else
  match scS r c Kall with
  | some (b, _, f, l) => if b - f ≤ 2 * tn (r 5) ∧ l - b ≤ 2 * tn (r 5) then (0, some b, none, none) else (3, none, none, none)
  | none => (if omin (omin (bstS r c (Kno 2)) (bstS r c (Kno 1))) (bstS r c (Kno 0)) = none then 5 else 4, none, omin (omin (bstS r c (Kno 2)) (bstS r c (Kno 1))) (bstS r c (Kno 0)), omax (omax (bstS r c (Kno 2)) (bstS r c (Kno 1))) (bstS r c (Kno 0)))
theorem fitS_congr {r : Row} {c : Nat} {K K' : Nat → Bool} (h : ∀ k, k < 3 → K k = K' k) : fitS r c K = fitS r c K' := by
  funext d
  unfold fitS
  rw [h 0 (by omega), h 1 (by omega), h 2 (by omega)]
theorem misS_congr {r : Row} {c : Nat} {K K' : Nat → Bool} (h : ∀ k, k < 3 → K k = K' k) : misS r c K = misS r c K' := by
  funext d
  unfold misS
  rw [h 0 (by omega), h 1 (by omega), h 2 (by omega)]
theorem scS_congr {r : Row} {c : Nat} {K K' : Nat → Bool} (h : ∀ k, k < 3 → K k = K' k) : scS r c K = scS r c K' := by
  unfold scS
  rw [fitS_congr h, misS_congr h]
theorem K7 : ∀ k, k < 3 → Kma 7 k = Kall k := by decide
theorem K3 : ∀ k, k < 3 → Kma 3 k = Kno 2 k := by decide
theorem K5 : ∀ k, k < 3 → Kma 5 k = Kno 1 k := by decide
theorem K6 : ∀ k, k < 3 → Kma 6 k = Kno 0 k := by decide
/-! what looksAt leaves as it was -/
def FrL (w v : Wd) : Prop := (∀ c, c ≠ 0 → c ≠ 6 → v.1 c = w.1 c) ∧ (∀ k, (k < 7 ∨ 13 < k) → v.1 0 k = w.1 0 k) ∧ v.2 = w.2
theorem FrL.rf (w : Wd) : FrL w w := ⟨fun _ _ _ => rfl, fun _ _ => rfl, rfl⟩
theorem FrL.tr {w v u : Wd} (h1 : FrL w v) (h2 : FrL v u) : FrL w u := ⟨fun c a b => (h2.1 c a b).trans (h1.1 c a b), fun k a => (h2.2.1 k a).trans (h1.2.1 k a), h2.2.2.trans h1.2.2⟩
theorem FrL.s0 {w v : Wd} (h : FrL w v) {k : Nat} (x : Int32) (h1 : 7 ≤ k) (h2 : k ≤ 13) : FrL w (wset v 0 k x) := ⟨fun c a b => by rw [ws_c _ _ a]; exact h.1 c a b, fun j a => by rw [ws_k _ _ (by omega)]; exact h.2.1 j a, h.2.2⟩
theorem FrL.s6 {w v : Wd} (h : FrL w v) (k : Nat) (x : Int32) : FrL w (wset v 6 k x) := ⟨fun c a b => by rw [ws_c _ _ b]; exact h.1 c a b, fun j a => by rw [ws_k _ _ (by omega)]; exact h.2.1 j a, h.2.2⟩
theorem FrL.B {w v : Wd} (h : FrL w v) (o : Option (Nat × Nat × Nat × Nat)) : FrL w (wB v o) := by unfold wB; exact (h.s0 _ (by omega) (by omega)).s0 _ (by omega) (by omega)
theorem FrL_RM {w v : Wd} (h : FrL w v) : RM v = RM w := by
  funext k
  unfold RM
  rw [h.1 1 (by decide) (by decide)]
