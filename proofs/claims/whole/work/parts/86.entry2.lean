/-! THE LAW'S ENTRY: what the state keeps; the cells in the spaces' order -/
theorem ent_st {s : State} {args : Array Value} {l : Launch} (hts : ∀ w ∈ lw_tbl, w.before args s = true) (hgv : (Jvm.Cond.and given_1 narrow_1).before args s = true) : ∃ (D : va_G) (c1 c2 : ClassId) (tc : Nat → Nat), ∀ f : Nat → Nat, stK (l, D, c1, c2, f, tc) (aL s) s ∧ stL (l, D, c1, c2, f, tc) (aL s) s := by
  obtain ⟨D, c1, c2, hK, hI⟩ := ent_K hts
  obtain ⟨tc, a0, a1, a2, a3, a4, a5⟩ := ent_A hts hgv
  refine ⟨D, c1, c2, tc, fun f => ⟨⟨a4, a5, va_Nw.of rfl (hts _ kfn_X4_28), va_Nw.of rfl (hts _ kfn_X4_37), hI, hK, va_Nw.of rfl (hts _ kmn_X5_39), va_AO.of (hts _ karrayOver)⟩, a0, a1, a2, a3, va_Nw.of rfl (hts _ kmn_X4_40), va_Nw.of rfl (hts _ kmn_X2_37), va_Nw.of rfl (hts _ kmn_X1_38), va_Nw.of rfl (hts _ kfn_X4_50), va_Nw.of rfl (hts _ kfn_X4_53), va_Nw.of rfl (hts _ kfn_X2_122), va_Nw.of rfl (hts _ kfn_X2_125)⟩⟩
def permC : List Nat := [0, 1, 6, 7, 8, 9, 15, 16, 17, 14, 2, 3, 4, 5, 10, 11, 12, 13, 18, 19, 20, 21, 22, 23, 24, 25, 26, 27, 28, 29, 30, 31, 32, 33, 34, 35, 36, 37]
def adrC (h0 : Nat) (u : List Nat) (k : Nat) : Nat := if permC.getD k 0 = 0 then h0 else u.getD (permC.getD k 0 - 1) 0
def adrM (h0 : Nat) (u : List Nat) (k : Nat) : Nat := if k = 0 then h0 else u.getD (k - 1) 0
theorem arr_ext {c : ClassId} {N : Nat} {f g : Nat → Value} (h : ∀ j, j < N → f j = g j) : arrV c N f = arrV c N g := by
  unfold arrV
  congr 1
  apply Array.ext
  · simp
  · intro i h1 h2
    simp at h1 ⊢
    exact h i h1
