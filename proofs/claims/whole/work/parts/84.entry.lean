/-! THE LAW'S ENTRY: classes, arrays' classes, static arrays -/
theorem gt_sub {w : Cond} (h : w ∈ GT) : w ∈ lw_tbl := (List.mem_filter.mp h).1
theorem ent_K {s : State} {args : Array Value} (hts : ∀ w ∈ lw_tbl, w.before args s = true) : ∃ (D : va_G) (c1 c2 : ClassId), va_K D CL [(c1, .int), (c2, .object RX4)] s ∧ s.vm.findClass ("[" ++ FieldType.int.toString) = some c1 := by
  have hg : ∀ w ∈ GT, w.before args s = true := fun w h => hts w (gt_sub h)
  obtain ⟨d0, i0, k0⟩ := u_known (C := RX1) (T := TX1) (N := 8) (n := 8) hg FX1.2 (hg _ kia_X1)
  obtain ⟨d1, i1, k1⟩ := u_known (C := RX2) (T := TX2) (N := 8) (n := 8) hg FX2.2 (hg _ kia_X2)
  obtain ⟨d2, i2, k2⟩ := u_known (C := RX4) (T := TX4) (N := 5) (n := 5) hg FX4.2 (hg _ kia_X4)
  obtain ⟨d3, i3, k3⟩ := u_known (C := RX5) (T := TX5) (N := 9) (n := 9) hg FX5.2 (hg _ kia_X5)
  obtain ⟨d4, i4, k4⟩ := u_known (C := RX6) (T := TX6) (N := 27) (n := 27) hg FX6.2 (hg _ kia_X6)
  obtain ⟨c1, kA, comp, a1, a2, a3⟩ := Cond.arrayClass_spec (hts _ karrayClass)
  obtain ⟨comp2, c2, kB, b1, b2, b3, b4, b5⟩ := Cond.arrayOver_spec (hts _ karrayOver)
  refine ⟨(fun k => if k = 0 then d0 else if k = 1 then d1 else if k = 2 then d2 else if k = 3 then d3 else d4, fun k => if k = 0 then i0 else if k = 1 then i1 else if k = 2 then i2 else if k = 3 then i3 else i4), c1, c2, ⟨?_, ?_⟩, a1⟩
  · intro k q hq
    match k, hq with
    | 0, hq => cases hq; exact k0
    | 1, hq => cases hq; exact k1
    | 2, hq => cases hq; exact k2
    | 3, hq => cases hq; exact k3
    | 4, hq => cases hq; exact k4
    | k + 5, hq => simp [CL] at hq
  · intro k q hq
    match k, hq with
    | 0, hq => cases hq; exact ⟨fun N z => ⟨(fun k h => by cases h), kA, a2, comp, a3⟩, trivial⟩
    | 1, hq => cases hq; exact ⟨fun N z => ⟨(fun k h => by cases h), kB, b3, comp2, b4⟩, kB, comp2, b3, b4, b1, b5⟩
    | k + 2, hq => simp at hq
theorem ent_S {s : State} {args : Array Value} {nm : String} {N : Nat} {f : Nat → Int32} (hts : ∀ w ∈ lw_tbl, w.before args s = true) (hN : N < 2 ^ 31) (hl : Cond.laysStatic RX5 nm "[I" ∈ lw_tbl) (harr : (Cond.arrayOf (.static RX5 nm "[I") .int).before args s = true) (hlen : (Cond.eq (.length (.static RX5 nm "[I")) (.int (Int32.ofNat N))).before args s = true) (hel : ∀ j : Nat, j < N → (Cond.eq (.elem (.static RX5 nm "[I") (.int (Int32.ofNat j))) (.int (f j))).before args s = true) : ∃ t : Nat, StA nm t N f (aL s) s := by
  have hA : ∀ a : Nat, a < s.heap.size → ¬ aL s a := fun a h => Nat.not_le.mpr h
  obtain ⟨t, h1, h2⟩ := va_Tof (A := aL s) (f := fun j => .int (f j)) hN harr (va_eqt hlen) (fun j hj => va_eqt (hel j hj)) hA
  exact ⟨t, va_Zof (hts _ hl) (hts _ (gt_sub kin_X5)) h1 hA, h2⟩
