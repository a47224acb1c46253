/-! THE LAW'S ENTRY: classes, arrays' classes, static arrays -/
theorem gt_sub {w : Cond} (h : w ∈ GT) : w ∈ lw_tbl := (List.mem_filter.mp h).1
theorem ent_K {s : State} {args : Array Value} (hts : ∀ w ∈ lw_tbl, w.before args s = true) : ∃ (D : va_G) (c1 c2 : ClassId), va_K D CL [(c1, .int), (c2, .object RX4)] s ∧ s.vm.findClass ("[" ++ FieldType.int.toString) = some c1 := by
  have hg : ∀ w ∈ GT, w.before args s = true := fun w h => hts w (gt_sub h)
  obtain ⟨d0, i0, k0⟩ := u_known (C := RX1) (T := TX1) (N := 8) (n := 8) hg FX1.2 (hg _ kia_X1)
  obtain ⟨d1, i1, k1⟩ := u_known (C := RX2) (T := TX2) (N := 8) (n := 8) hg FX2.2 (hg _ kia_X2)
  obtain ⟨d2, i2, k2⟩ := u_known (C := RX4) (T := TX4) (N := 5) (n := 5) hg FX4.2 (hg _ kia_X4)
  obtain ⟨d3, i3, k3⟩ := u_known (C := RX5) (T := TX5) (N := 9) (n := 9) hg FX5.2 (hg _ kia_X5)
  obtain ⟨d4, i4, k4⟩ := u_known (C := RX6) (T := TX6) (N := 27) (n := 27) hg FX6.2 (hg _ kia_X6)
  obtain ⟨c1, kA, comp, a1, a2, a3⟩ := Cond.arrayClass_spec (hts _ karrayClass)
  obtain ⟨comp2, c2, kB, b1, b2, b3, b4, b5⟩ := Cond.arrayOver_spec (hts _ karrayOver)
  refine ⟨(fun k => if k = 0 then d0 else if k = 1 then d1 else if k = 2 then d2 else if k = 3 then d3 else d4, fun k => if k = 0 then i0 else if k = 1 then i1 else if k = 2 then i2 else if k = 3 then i3 else i4), c1, c2, ⟨?_, ?_⟩, a1⟩
  · intro k q hq
    match k, hq with
    | 0, hq => cases hq; exact k0
    | 1, hq => cases hq; exact k1
    | 2, hq => cases hq; exact k2
    | 3, hq => cases hq; exact k3
    | 4, hq => cases hq; exact k4
    | k + 5, hq => simp [CL] at hq
  · intro k q hq
    match k, hq with
    | 0, hq => cases hq; exact ⟨fun N z => ⟨(fun k h => by cases h), kA, a2, comp, a3⟩, by unfold va_RA; trivial⟩
    | 1, hq => cases hq; exact ⟨fun N z => ⟨(fun k h => by cases h), kB, b3, comp2, b4⟩, kB, comp2, b3, b4, b1, b5⟩
    | k + 2, hq => simp at hq
theorem ent_S {s : State} {args : Array Value} {nm : String} {N : Nat} {f : Nat → Int32} (hts : ∀ w ∈ lw_tbl, w.before args s = true) (hN : N < 2 ^ 31) (hl : Cond.laysStatic RX5 nm "[I" ∈ lw_tbl) (harr : (Cond.arrayOf (.static RX5 nm "[I") .int).before args s = true) (hlen : (Cond.eq (.length (.static RX5 nm "[I")) (.int (Int32.ofNat N))).before args s = true) (hel : ∀ j : Nat, j < N → (Cond.eq (.elem (.static RX5 nm "[I") (.int (Int32.ofNat j))) (.int (f j))).before args s = true) : ∃ t : Nat, StA nm t N f (aL s) s := by
  have hA : ∀ a : Nat, a < s.heap.size → ¬ aL s a := fun a h => Nat.not_le.mpr h
  obtain ⟨t, h1, h2⟩ := va_Tof (A := aL s) (f := fun j => .int (f j)) hN harr (va_eqt hlen) (fun j hj => va_eqt (hel j hj)) hA
  exact ⟨t, va_Zof (hts _ hl) (hts _ (gt_sub kin_X5)) h1 hA, h2⟩
set_option maxRecDepth 100000 in
set_option maxHeartbeats 4000000 in
theorem ent_A {s : State} {args : Array Value} (hts : ∀ w ∈ lw_tbl, w.before args s = true) (hgv : (Jvm.Cond.and given_1 narrow_1).before args s = true) : ∃ tc : Nat → Nat, StA "LEAST_SETTINGS" (tc 0) 6 fLeast (aL s) s ∧ StA "MOST_SETTINGS" (tc 1) 6 fMost (aL s) s ∧ StA "BESIDE_X" (tc 2) 4 fBx (aL s) s ∧ StA "BESIDE_Y" (tc 3) 4 fBy (aL s) s ∧ StA "FIRST_WAVES" (tc 4) 3 fWaves (aL s) s ∧ StA "FIRST_SETTINGS" (tc 5) 6 fSets (aL s) s := by
  have hs := flat_of_before _ hgv
  obtain ⟨t0, h0⟩ := ent_S (nm := "LEAST_SETTINGS") (N := 6) (f := fLeast) hts (by decide) kls_LEAST_SETTINGS (hs _ (by decide +kernel)) (hs _ (by decide +kernel)) (fun j hj => by
    rcases (by omega : j = 0 ∨ j = 1 ∨ j = 2 ∨ j = 3 ∨ j = 4 ∨ j = 5) with rfl | rfl | rfl | rfl | rfl | rfl
    · exact hs _ (by decide +kernel)
    · exact hs _ (by decide +kernel)
    · exact hs _ (by decide +kernel)
    · exact hs _ (by decide +kernel)
    · exact hs _ (by decide +kernel)
    · exact hs _ (by decide +kernel))
  obtain ⟨t1, h1⟩ := ent_S (nm := "MOST_SETTINGS") (N := 6) (f := fMost) hts (by decide) kls_MOST_SETTINGS (hs _ (by decide +kernel)) (hs _ (by decide +kernel)) (fun j hj => by
    rcases (by omega : j = 0 ∨ j = 1 ∨ j = 2 ∨ j = 3 ∨ j = 4 ∨ j = 5) with rfl | rfl | rfl | rfl | rfl | rfl
    · exact hs _ (by decide +kernel)
    · exact hs _ (by decide +kernel)
    · exact hs _ (by decide +kernel)
    · exact hs _ (by decide +kernel)
    · exact hs _ (by decide +kernel)
    · exact hs _ (by decide +kernel))
  obtain ⟨t2, h2⟩ := ent_S (nm := "BESIDE_X") (N := 4) (f := fBx) hts (by decide) kls_BESIDE_X (hs _ (by decide +kernel)) (hs _ (by decide +kernel)) (fun j hj => by
    rcases (by omega : j = 0 ∨ j = 1 ∨ j = 2 ∨ j = 3) with rfl | rfl | rfl | rfl
    · exact hs _ (by decide +kernel)
    · exact hs _ (by decide +kernel)
    · exact hs _ (by decide +kernel)
    · exact hs _ (by decide +kernel))
  obtain ⟨t3, h3⟩ := ent_S (nm := "BESIDE_Y") (N := 4) (f := fBy) hts (by decide) kls_BESIDE_Y (hs _ (by decide +kernel)) (hs _ (by decide +kernel)) (fun j hj => by
    rcases (by omega : j = 0 ∨ j = 1 ∨ j = 2 ∨ j = 3) with rfl | rfl | rfl | rfl
    · exact hs _ (by decide +kernel)
    · exact hs _ (by decide +kernel)
    · exact hs _ (by decide +kernel)
    · exact hs _ (by decide +kernel))
  obtain ⟨t4, h4⟩ := ent_S (nm := "FIRST_WAVES") (N := 3) (f := fWaves) hts (by decide) kls_FIRST_WAVES (hs _ (by decide +kernel)) (hs _ (by decide +kernel)) (fun j hj => by
    rcases (by omega : j = 0 ∨ j = 1 ∨ j = 2) with rfl | rfl | rfl
    · exact hs _ (by decide +kernel)
    · exact hs _ (by decide +kernel)
    · exact hs _ (by decide +kernel))
  obtain ⟨t5, h5⟩ := ent_S (nm := "FIRST_SETTINGS") (N := 6) (f := fSets) hts (by decide) kls_FIRST_SETTINGS (hs _ (by decide +kernel)) (hs _ (by decide +kernel)) (fun j hj => by
    rcases (by omega : j = 0 ∨ j = 1 ∨ j = 2 ∨ j = 3 ∨ j = 4 ∨ j = 5) with rfl | rfl | rfl | rfl | rfl | rfl
    · exact hs _ (by decide +kernel)
    · exact hs _ (by decide +kernel)
    · exact hs _ (by decide +kernel)
    · exact hs _ (by decide +kernel)
    · exact hs _ (by decide +kernel)
    · exact hs _ (by decide +kernel))
  exact ⟨(fun k => if k = 0 then t0 else if k = 1 then t1 else if k = 2 then t2 else if k = 3 then t3 else if k = 4 then t4 else t5), h0, h1, h2, h3, h4, h5⟩
