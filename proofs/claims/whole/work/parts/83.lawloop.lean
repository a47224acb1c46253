/-! THE LAW: its loop -/
section LL4
variable {ZC ZM : CSp} {b L : Nat} {xs : Nat → Int32} {w v : Wd} {pc : Nat} {lv : List (Nat × Value)} {st : List Value}
theorem l_gt {x y : Int32} {off : Int} {tgt : Nat} (d : decode code pc = .ok (.if_icmp .gt off, 3)) (ht : (pc : Int) + off = (tgt : Int)) (kt : y < x → Wl ZC ZM b L xs w v tgt lv st) (kf : ¬ y < x → Wl ZC ZM b L xs w v (pc + 3) lv st) : Wl ZC ZM b L xs w v pc lv (.int y :: .int x :: st) := fun p e s m below meth c H locs ls C h1 h2 h3 h4 hS hl => lv_icmp_gt C.1 C.2.1 d ht (fun h => kt h p e s m below meth c H locs ls C h1 h2 h3 h4 hS hl) (fun h => kf h p e s m below meth c H locs ls C h1 h2 h3 h4 hS hl)
theorem l_tin {x k : Int32} {dflt lo hi : Int} {offs : Array Int} {len tgt : Nat} (d : decode code pc = .ok (.tableswitch dflt lo hi offs, len)) (hx : x = k) (hk : ¬ k.toInt < lo ∧ ¬ hi < k.toInt ∧ (offs[(k.toInt - lo).toNat]?).map (fun q => (pc : Int) + q) = some (tgt : Int)) (kk : Wl ZC ZM b L xs w v tgt lv st) : Wl ZC ZM b L xs w v pc lv (.int x :: st) := by
  subst hx
  obtain ⟨h1, h2, h3⟩ := hk
  obtain ⟨off, h4, h5⟩ := Option.map_eq_some_iff.mp h3
  exact fun p e s m below meth c H locs ls C g1 g2 g3 g4 hS hl => lv_tableIn C.1 C.2.1 d h1 h2 h4 h5 (kk p e s m below meth c H locs ls C g1 g2 g3 g4 hS hl)
theorem l_tout {x : Int32} {dflt lo hi : Int} {offs : Array Int} {len tgt : Nat} (d : decode code pc = .ok (.tableswitch dflt lo hi offs, len)) (h : x.toInt < lo ∨ hi < x.toInt) (ht : (pc : Int) + dflt = (tgt : Int)) (kk : Wl ZC ZM b L xs w v tgt lv st) : Wl ZC ZM b L xs w v pc lv (.int x :: st) := fun p e s m below meth c H locs ls C h1 h2 h3 h4 hS hl => lv_tableOut C.1 C.2.1 d h ht (kk p e s m below meth c H locs ls C h1 h2 h3 h4 hS hl)
theorem l_iinc {i : Nat} {u : Int} {x y : Int32} {lv' : List (Nat × Value)} (d : decode code pc = .ok (.iinc i u, 3)) (j : Nat) (hj : lv[j]? = some (i, Value.int x)) (hv : x + Int32.ofInt u = y) (hn : i < 4) (ks : List Nat) (hl' : lv_pick ((i, Value.int y) :: lv.filter (fun q => !(q.1 == i) && !(q.1 + 1 == i && q.2.category == 2))) ks = lv') (kk : Wl ZC ZM b L xs w v (pc + 3) lv' st) : Wl ZC ZM b L xs w v pc lv st := fun p e s m below meth c H locs ls C h1 h2 h3 h4 hS hl => lv_iinc C.1 C.2.1 d hl (k := j) hj hv hn rfl (fun ls h9 => kk p e s m below meth c H locs ls C h1 h2 h3 h4 hS (lv_sub h9 ks hl'))
theorem l_end (d : decode code pc = .ok (.ireturn, 1)) : Wl ZC ZM b L xs w v pc lv [.int 1] := fun p e s m below meth c H locs ls C h1 h2 h3 h4 hS hl => va_forget (fun q hq => hS.2.2 q hq) (W.widen (k := 600000) (n := 7302250) (by decide) (by decide) (lw_ret (d0 := s.drawn) (Drawn.sameBut.refl s.drawn lw_cs) C.1 C.2.1 C.2.2.2.2.2.1 C.2.2.2.2.2.2.1 d))
end LL4
set_option maxRecDepth 100000 in
set_option maxHeartbeats 4000000 in
theorem law_loop {ZC ZM : CSp} {b L : Nat} {xs : Nat → Int32} (hL : L ≤ 3584) : ∀ (n i : Nat) (w v : Wd), Sim w v → L + 8 ≤ i + n → i ≤ L + 7 → Wl ZC ZM b L xs w v 18 [(0, Value.ref b), (1, Value.ref (aC ZC 0)), (2, Value.ref (aC ZM 0)), (3, Value.int (nI i))] [] := by
  intro n
  induction n with
  | zero =>
    intro i w v hs h1 h2
    omega
  | succ n ih =>
    intro i w v hs h1 h2
    have nxt : i + 7 ≤ L → ∀ w1 v1 : Wd, Sim w1 v1 → Wl ZC ZM b L xs w1 v1 1154 [(0, Value.ref b), (1, Value.ref (aC ZC 0)), (2, Value.ref (aC ZM 0)), (3, Value.int (nI i))] [] := fun hi w1 v1 hs1 => by
      refine l_iinc (y := nI (i + 7)) (lv' := [(0, Value.ref b), (1, Value.ref (aC ZC 0)), (2, Value.ref (aC ZM 0)), (3, Value.int (nI (i + 7)))]) dL_law_1154 3 rfl (a_al i 7) (by decide) [1, 2, 3, 0] rfl ?_
      refine l_goto (tgt := 18) dL_law_1157 (by decide) ?_
      exact ih (i + 7) w1 v1 hs1 (by omega) (by omega)
    have hsub : (nI L - 7).toInt = (L : Int) - 7 := by
      rw [toI_sub (by rw [toI_n (by omega)]; show _ ≤ _ - (7 : Int); omega) (by rw [toI_n (by omega)]; show _ - (7 : Int) ≤ _; omega), toI_n (by omega)]
      rfl
    refine l_iload dL_law_18 3 rfl ?_
    refine l_aload dL_law_19 0 rfl ?_
    refine l_slen dL_law_20 ?_
    refine l_bipush (x := 7) dL_law_21 (by decide) ?_
    refine l_isub dL_law_23 ?_
    refine l_gt (tgt := 1160) dL_law_24 (by decide) (fun hc => ?_) (fun hc => ?_)
    · refine l_iconst (x := 1) dL_law_1160 (by decide) ?_
      exact l_end dL_law_1161
    · have hi : i + 7 ≤ L := by
        have hle := Int32.le_iff_toInt_le.mp (Int32.not_lt.mp hc)
        rw [hsub, toI_n (by omega)] at hle
        omega
      refine l_aload dL_law_27 0 rfl ?_
      refine l_iload dL_law_28 3 rfl ?_
      refine l_sld (i_n (by omega) (by omega)) dL_law_29 ?_
      refine l_bipush (x := 31) dL_law_30 (by decide) ?_
      refine l_iand dL_law_32 ?_
      generalize xs (nI i).toNatClampNeg &&& 31 = x
      by_cases hx : x.toInt < 0 ∨ 25 < x.toInt
      · exact l_tout (tgt := 1154) dL_law_33 hx (by decide) (nxt hi w v hs)
      · obtain ⟨k, hk, rfl⟩ : ∃ k : Nat, k ≤ 25 ∧ x = nI k := ⟨x.toInt.toNat, by omega, eq_n (by omega) (by omega)⟩
        rcases (by omega : k = 0 ∨ k = 1 ∨ k = 2 ∨ k = 3 ∨ k = 4 ∨ k = 5 ∨ k = 6 ∨ k = 7 ∨ k = 8 ∨ k = 9 ∨ k = 10 ∨ k = 11 ∨ k = 12 ∨ k = 13 ∨ k = 14 ∨ k = 15 ∨ k = 16 ∨ k = 17 ∨ k = 18 ∨ k = 19 ∨ k = 20 ∨ k = 21 ∨ k = 22 ∨ k = 23 ∨ k = 24 ∨ k = 25) with rfl | rfl | rfl | rfl | rfl | rfl | rfl | rfl | rfl | rfl | rfl | rfl | rfl | rfl | rfl | rfl | rfl | rfl | rfl | rfl | rfl | rfl | rfl | rfl | rfl | rfl
        · exact l_tin (k := 0) (tgt := 152) dL_law_33 rfl (by decide) (ca_0 hs hi hL (nxt hi))
        · exact l_tin (k := 1) (tgt := 185) dL_law_33 rfl (by decide) (ca_1 hs hi hL (nxt hi))
        · exact l_tin (k := 2) (tgt := 218) dL_law_33 rfl (by decide) (ca_2 hs hi hL (nxt hi))
        · exact l_tin (k := 3) (tgt := 251) dL_law_33 rfl (by decide) (ca_3 hs hi hL (nxt hi))
        · exact l_tin (k := 4) (tgt := 326) dL_law_33 rfl (by decide) (ca_4 hs hi hL (nxt hi))
        · exact l_tin (k := 5) (tgt := 389) dL_law_33 rfl (by decide) (ca_5 hs hi hL (nxt hi))
        · exact l_tin (k := 6) (tgt := 442) dL_law_33 rfl (by decide) (ca_6 hs hi hL (nxt hi))
        · exact l_tin (k := 7) (tgt := 485) dL_law_33 rfl (by decide) (ca_7 hs hi hL (nxt hi))
        · exact l_tin (k := 8) (tgt := 548) dL_law_33 rfl (by decide) (ca_8 hs hi hL (nxt hi))
        · exact l_tin (k := 9) (tgt := 611) dL_law_33 rfl (by decide) (ca_9 hs hi hL (nxt hi))
        · exact l_tin (k := 10) (tgt := 674) dL_law_33 rfl (by decide) (ca_10 hs hi hL (nxt hi))
        · exact l_tin (k := 11) (tgt := 727) dL_law_33 rfl (by decide) (ca_11 hs hi hL (nxt hi))
        · exact l_tin (k := 12) (tgt := 790) dL_law_33 rfl (by decide) (ca_12 hs hi hL (nxt hi))
        · exact l_tin (k := 13) (tgt := 833) dL_law_33 rfl (by decide) (ca_13 hs hi hL (nxt hi))
        · exact l_tin (k := 14) (tgt := 886) dL_law_33 rfl (by decide) (ca_14 hs hi hL (nxt hi))
        · exact l_tin (k := 15) (tgt := 929) dL_law_33 rfl (by decide) (ca_15 hs hi hL (nxt hi))
        · exact l_tin (k := 16) (tgt := 962) dL_law_33 rfl (by decide) (ca_16 hs hi hL (nxt hi))
        · exact l_tin (k := 17) (tgt := 995) dL_law_33 rfl (by decide) (ca_17 hs hi hL (nxt hi))
        · exact l_tin (k := 18) (tgt := 1008) dL_law_33 rfl (by decide) (ca_18 hs hi hL (nxt hi))
        · exact l_tin (k := 19) (tgt := 1032) dL_law_33 rfl (by decide) (ca_19 hs hi hL (nxt hi))
        · exact l_tin (k := 20) (tgt := 1055) dL_law_33 rfl (by decide) (ca_20 hs hi hL (nxt hi))
        · exact l_tin (k := 21) (tgt := 1078) dL_law_33 rfl (by decide) (ca_21 hs hi hL (nxt hi))
        · exact l_tin (k := 22) (tgt := 1091) dL_law_33 rfl (by decide) (ca_22 hs hi hL (nxt hi))
        · exact l_tin (k := 23) (tgt := 1104) dL_law_33 rfl (by decide) (ca_23 hs hi hL (nxt hi))
        · exact l_tin (k := 24) (tgt := 1117) dL_law_33 rfl (by decide) (ca_24 hs hi hL (nxt hi))
        · exact l_tin (k := 25) (tgt := 1140) dL_law_33 rfl (by decide) (ca_25 hs hi hL (nxt hi))
