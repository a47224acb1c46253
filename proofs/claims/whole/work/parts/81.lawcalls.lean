/-! THE LAW: calls of both sides -/
section LL2
variable {ZC ZM : CSp} {b L : Nat} {xs : Nat → Int32} {w v : Wd} {pc : Nat} {lv : List (Nat × Value)} {st : List Value}
theorem l_callC {τ2 : Type} {st0 : List Value} {y : MethodName} {cc : ByteArray} {maxL n : Nat} {rt : Option FieldType} {rm : Room} {O2 : τ2 → Option Value × Wd} {F : Option τ2} {i : Nat} (As : List Value) (cf : CFv y cc maxL rt n) (hM : MetM (EC ZC) y cc maxL rt rm O2 (.ref (aC ZC 0) :: As) w F) (hk : Cond.methodLink RL i y ∈ GT) (hR : RmOk room_1 rm maxL) (hst : st0 = As.reverse ++ .ref (aC ZC 0) :: st) (hn : As.length = n) (hcl : RX5 = y.cls) (hcat : (st.map fun v => v.category).sum ≤ 8) (hroom : 51 ≤ room_1.cells ∧ 6677 ≤ room_1.slots) (d : decode code pc = .ok (.invokevirtual i, 3)) (r0 : τ2) (h0 : F = some r0) (kk : Wl ZC ZM b L xs (O2 r0).2 v (pc + 3) lv ((O2 r0).1.toList ++ st)) : Wl ZC ZM b L xs w v pc lv st0 := by
  intro p e s m below meth c H locs ls C h1 h2 h3 h4 hS hl T hT X
  obtain ⟨f1, f2, f3, f4, f5, f6, f7⟩ := C.2.2.2.2.2.2.2.2.2.2.2
  have hr := va_runV (e := e) (below := below) (meth := meth) (l := ZC.1) (R := room_1) (cells := 51) (slots := 6677) (H := H) (locs := locs) (g := F0 m pc ls st0) (As := As) (rest := st) ⟨C.1, C.2.1, C.2.2.1, C.2.2.2.1, C.2.2.2.2.1⟩ (hM r0 h0) ⟨callB_of n C.2.2.2.2.1 (gt_in cf.1.1) rfl hR.1 hR.2.1 (C.2.2.2.2.1 _ cf.1.2.1) (C.2.2.2.2.1 _ hk) cf.1.2.2 ⟨hR.2.2.1, hR.2.2.2⟩, C.2.2.2.2.1 _ cf.2.1, C.2.2.2.2.1 _ cf.2.2⟩ ⟨metBlind, hcl ▸ va_recv (q := (RX5, TX5, 9)) C.2.2.2.2.2.2.2.2.2.1 h1 rfl (qC_0 ZC w), fun U hU hW => ⟨rfl, EC_ok ZC, stL_C C.2.2.2.2.2.2.2.2.2.2.1 hS hU hW f5, by rw [hU]; exact h1, va_K.moved hW.alike C.2.2.2.2.2.2.2.2.2.1, h2⟩⟩ rfl hn hl.1 hst (lv_room hcat) d ⟨hroom.1, hroom.2⟩
  obtain ⟨rv, st₀, t, T', Lc, g0, X', hLc, e1, e2, ⟨⟨hv, hP1, hD1⟩, hz, hk1⟩, stp⟩ := hr T hT X
  cases hv
  rw [g0] at hz hk1
  obtain ⟨t2, a1, b1⟩ := kk p e s m below meth c T'.heap (locs ++ Lc) ls C (by rw [e1]; exact hP1) hD1 (fun j y hy => (h3 j y hy).kept (by rw [e1]; exact hk1 y.1 (h3 j y hy).lt (fun z => f7 y.1 z (h4.2 j y hy)))) h4
    ⟨Nat.le_trans hS.1 (by rw [e1]; exact hz), fun q g1 g2 => by rw [e1, hk1 q (Nat.lt_of_lt_of_le g1 hS.1) (fun z => g2 (f5 q z))]; exact hS.2.1 q g1 g2, fun x hx => by
      rcases List.mem_append.mp hx with h | h
      · exact hS.2.2 x h
      · exact f5 _ (hLc x h)⟩ hl T' rfl X'
  exact ⟨t2, stp t2 a1, b1⟩
theorem l_callM {τ2 : Type} {st0 : List Value} {y : MethodName} {cc : ByteArray} {maxL n : Nat} {rt : Option FieldType} {rm : Room} {O2 : τ2 → Option Value × Wd} {F : Option τ2} {i : Nat} (As : List Value) (cf : CFv y cc maxL rt n) (hM : MetM (EM ZM) y cc maxL rt rm O2 (.ref (aC ZM 0) :: As) v F) (hk : Cond.methodLink RL i y ∈ GT) (hR : RmOk room_1 rm maxL) (hst : st0 = As.reverse ++ .ref (aC ZM 0) :: st) (hn : As.length = n) (hcl : RX6 = y.cls) (hcat : (st.map fun v => v.category).sum ≤ 8) (hroom : 51 ≤ room_1.cells ∧ 6677 ≤ room_1.slots) (d : decode code pc = .ok (.invokevirtual i, 3)) (r0 : τ2) (h0 : F = some r0) (kk : Wl ZC ZM b L xs w (O2 r0).2 (pc + 3) lv ((O2 r0).1.toList ++ st)) : Wl ZC ZM b L xs w v pc lv st0 := by
  intro p e s m below meth c H locs ls C h1 h2 h3 h4 hS hl T hT X
  obtain ⟨f1, f2, f3, f4, f5, f6, f7⟩ := C.2.2.2.2.2.2.2.2.2.2.2
  have hKM : va_K ZM.2.1 CL (tyK ZM) s := by
    unfold tyK
    rw [f2, f3, f4]
    exact C.2.2.2.2.2.2.2.2.2.1
  have hM' := hM r0 h0
  rw [show eL (EM ZM) = ZC.1 from f1] at hM'
  have hr := va_runV (e := e) (below := below) (meth := meth) (l := ZC.1) (R := room_1) (cells := 51) (slots := 6677) (H := H) (locs := locs) (g := F0 m pc ls st0) (As := As) (rest := st) ⟨C.1, C.2.1, C.2.2.1, C.2.2.2.1, C.2.2.2.2.1⟩ hM' ⟨callB_of n C.2.2.2.2.1 (gt_in cf.1.1) rfl hR.1 hR.2.1 (C.2.2.2.2.1 _ cf.1.2.1) (C.2.2.2.2.1 _ hk) cf.1.2.2 ⟨hR.2.2.1, hR.2.2.2⟩, C.2.2.2.2.1 _ cf.2.1, C.2.2.2.2.1 _ cf.2.2⟩ ⟨metBlind, hcl ▸ va_recv (q := (RX6, TX6, 27)) hKM h3 rfl (qM_0 ZM v), fun U hU hW => ⟨rfl, EM_ok ZM, trivial, by rw [hU]; exact h3, va_K.moved hW.alike hKM, h4⟩⟩ rfl hn hl.1 hst (lv_room hcat) d ⟨hroom.1, hroom.2⟩
  obtain ⟨rv, st₀, t, T', Lc, g0, X', hLc, e1, e2, ⟨⟨hv, hP1, hD1⟩, hz, hk1⟩, stp⟩ := hr T hT X
  cases hv
  rw [g0] at hz hk1
  obtain ⟨t2, a1, b1⟩ := kk p e s m below meth c T'.heap (locs ++ Lc) ls C (fun j y hy => (h1 j y hy).kept (by rw [e1]; exact hk1 y.1 (h1 j y hy).lt (fun z => f7 y.1 (h2.2 j y hy) z))) h2 (by rw [e1]; exact hP1) hD1
    ⟨Nat.le_trans hS.1 (by rw [e1]; exact hz), fun q g1 g2 => by rw [e1, hk1 q (Nat.lt_of_lt_of_le g1 hS.1) (fun z => g2 (f6 q z))]; exact hS.2.1 q g1 g2, fun x hx => by
      rcases List.mem_append.mp hx with h | h
      · exact hS.2.2 x h
      · exact f6 _ (hLc x h)⟩ hl T' rfl X'
  exact ⟨t2, stp t2 a1, b1⟩
end LL2
