/-! THE LAW, from its entry -/
theorem mem_apart {A : Nat → Prop} {x y : va_W} (hD : va_D A (x ++ y)) {a b : Nat} {p q : Nat × va_E} (ha : x[a]? = some p) (hb : y[b]? = some q) : p.1 ≠ q.1 := fun h => by
  have hl : a < x.length := (List.getElem?_eq_some_iff.mp ha).1
  have := hD.1 a (x.length + b) p q (by rw [List.getElem?_append_left hl]; exact ha) (by rw [List.getElem?_append_right (by omega), Nat.add_sub_cancel_left]; exact hb) h
  omega
theorem app_l {A : Nat → Prop} {D : va_G} {x y : va_W} {H : Heap} (hP : va_P D CL (x ++ y) H) (hD : va_D A (x ++ y)) : (va_P D CL x H ∧ va_D A x) ∧ va_P D CL y H ∧ va_D A y := by
  have l : ∀ k q, x[k]? = some q → (x ++ y)[k]? = some q := fun k q h => by rw [List.getElem?_append_left (List.getElem?_eq_some_iff.mp h).1]; exact h
  have r : ∀ k q, y[k]? = some q → (x ++ y)[x.length + k]? = some q := fun k q h => by rw [List.getElem?_append_right (by omega), Nat.add_sub_cancel_left]; exact h
  exact ⟨⟨fun k q h => hP k q (l k q h), fun i j p q h1 h2 h3 => hD.1 i j p q (l i p h1) (l j q h2) h3, fun k q h => hD.2 k q (l k q h)⟩, fun k q h => hP _ q (r k q h), fun i j p q h1 h2 h3 => by have := hD.1 _ _ p q (r i p h1) (r j q h2) h3; omega, fun k q h => hD.2 _ q (r k q h)⟩
