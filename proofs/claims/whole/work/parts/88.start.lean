/-! THE LAW'S ENTRY: the spaces -/
set_option maxRecDepth 100000 in
set_option maxHeartbeats 4000000 in
theorem toC {Z : CSp} {h0 : Nat} {u : List Nat} {H : Heap} {A : Nat → Prop} (hP : va_P Z.2.1 CL (csK5 Z h0 u) H) (hD : va_D A (csK5 Z h0 u)) : va_P Z.2.1 CL (csC (zC Z h0 u) w0) H ∧ va_D A (csC (zC Z h0 u) w0) := by
  have hP1 := hP.sub permC rfl
  have hD1 := hD.sub (ws' := permC.filterMap (fun i => (csK5 Z h0 u)[i]?)) permC (by decide) rfl
  have he : (permC.filterMap (fun i => (csK5 Z h0 u)[i]?))[9]? = some (adrC h0 u 9, _) := rfl
  rw [← toC9]
  refine ⟨hP1.set hD1 he ?_ (fun _ _ => rfl), hD1.set he⟩
  have hx : ∀ f g : Nat → Option Nat, (∀ j, j < 5 → f j = g j) → vp_cell (cR Z) (5, .inr (.inr (.inr (.inr f)))) = vp_cell (cR Z) (5, .inr (.inr (.inr (.inr g)))) := fun f g h => by
    show arrV (cR Z) 5 (fun j => va_rf (f j)) = arrV (cR Z) 5 (fun j => va_rf (g j))
    exact arr_ext (fun j hj => by rw [h j hj])
  refine Eq.trans (hP1 9 _ he) (congrArg some (hx _ _ (fun j hj => ?_)))
  rcases (by omega : j = 0 ∨ j = 1 ∨ j = 2 ∨ j = 3 ∨ j = 4) with rfl | rfl | rfl | rfl | rfl <;> rfl
set_option maxRecDepth 100000 in
set_option maxHeartbeats 4000000 in
theorem atC (Z : CSp) (w : Wd) : ∀ k, k < 38 → ∃ e, (csC Z w)[k]? = some (aC Z k, e) := by
  intro k hk
  rcases (by omega : k = 0 ∨ k = 1 ∨ k = 2 ∨ k = 3 ∨ k = 4 ∨ k = 5 ∨ k = 6 ∨ k = 7 ∨ k = 8 ∨ k = 9 ∨ k = 10 ∨ k = 11 ∨ k = 12 ∨ k = 13 ∨ k = 14 ∨ k = 15 ∨ k = 16 ∨ k = 17 ∨ k = 18 ∨ k = 19 ∨ k = 20 ∨ k = 21 ∨ k = 22 ∨ k = 23 ∨ k = 24 ∨ k = 25 ∨ k = 26 ∨ k = 27 ∨ k = 28 ∨ k = 29 ∨ k = 30 ∨ k = 31 ∨ k = 32 ∨ k = 33 ∨ k = 34 ∨ k = 35 ∨ k = 36 ∨ k = 37) with rfl | rfl | rfl | rfl | rfl | rfl | rfl | rfl | rfl | rfl | rfl | rfl | rfl | rfl | rfl | rfl | rfl | rfl | rfl | rfl | rfl | rfl | rfl | rfl | rfl | rfl | rfl | rfl | rfl | rfl | rfl | rfl | rfl | rfl | rfl | rfl | rfl | rfl <;> exact ⟨_, rfl⟩
set_option maxRecDepth 100000 in
set_option maxHeartbeats 4000000 in
theorem atM (Z : CSp) (w : Wd) : ∀ k, k < 13 → ∃ e, (csM Z w)[k]? = some (aC Z k, e) := by
  intro k hk
  rcases (by omega : k = 0 ∨ k = 1 ∨ k = 2 ∨ k = 3 ∨ k = 4 ∨ k = 5 ∨ k = 6 ∨ k = 7 ∨ k = 8 ∨ k = 9 ∨ k = 10 ∨ k = 11 ∨ k = 12) with rfl | rfl | rfl | rfl | rfl | rfl | rfl | rfl | rfl | rfl | rfl | rfl | rfl <;> exact ⟨_, rfl⟩
theorem rg_C {A : Nat → Prop} {Z : CSp} {w : Wd} (hD : va_D A (csC Z w)) : (∀ q, rgC Z q → A q) ∧ va_D (rgC Z) (csC Z w) := by
  refine ⟨fun q hq => ?_, hD.1, fun k q hk => ?_⟩
  · obtain ⟨k, h1, rfl⟩ := hq
    obtain ⟨e, he⟩ := atC Z w k h1
    exact hD.2 k _ he
  · have hlt : k < 38 := (List.getElem?_eq_some_iff.mp hk).1
    obtain ⟨e, he⟩ := atC Z w k hlt
    rw [he] at hk
    cases hk
    exact ⟨k, hlt, rfl⟩
theorem rg_M {A : Nat → Prop} {Z : CSp} {w : Wd} (hD : va_D A (csM Z w)) : (∀ q, rgM Z q → A q) ∧ va_D (rgM Z) (csM Z w) := by
  refine ⟨fun q hq => ?_, hD.1, fun k q hk => ?_⟩
  · obtain ⟨k, h1, rfl⟩ := hq
    obtain ⟨e, he⟩ := atM Z w k h1
    exact hD.2 k _ he
  · have hlt : k < 13 := (List.getElem?_eq_some_iff.mp hk).1
    obtain ⟨e, he⟩ := atM Z w k hlt
    rw [he] at hk
    cases hk
    exact ⟨k, hlt, rfl⟩
