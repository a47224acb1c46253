abbrev MX4_sampleAt : Mt := (cX4_sampleAt, RX4, 5, some .int, { frames := 1, cells := 0, slots := 0, locals := 22 })
def f_X4_sampleAt_b39 (s0 : Int32) (w : Wd) : Option (Int32) :=
  some s0
set_option maxRecDepth 100000 in
set_option maxHeartbeats 4000000 in
theorem wk_X4_sampleAt_b39 (Z : CSp) (w : Wd) (s0 : Int32)  : Wm (EC Z) MX4_sampleAt (oI w) w 39 [] [Value.int s0] (f_X4_sampleAt_b39 s0 w) := by
  unfold f_X4_sampleAt_b39
  exact r_iret rfl dX4_sampleAt_39
def f_X4_sampleAt (x1 : Int32) (x2 : Int32) (x3 : Int32) (w : Wd) : Option (Int32) :=
  jlet (((x1 * (12 : Int32)) + (x2 * (4 : Int32))) + x3) (fun y1 => (f_X5_within y1 (0 : Int32) ((384 : Int32) - (1 : Int32))).bind (fun v2 => if v2 = 0 then (f_X4_sampleAt_b39 (0 : Int32) w) else (if inb y1 384 = true then (f_X4_sampleAt_b39 (w.1 13 (y1).toNatClampNeg) w) else none)))
set_option maxRecDepth 100000 in
set_option maxHeartbeats 4000000 in
theorem wk_X4_sampleAt (Z : CSp) (w : Wd) (x1 : Int32) (x2 : Int32) (x3 : Int32)  : Wm (EC Z) MX4_sampleAt (oI w) w 0 [(0, Value.ref (aC Z 10)), (1, Value.int x1), (2, Value.int x2), (3, Value.int x3)] [] (f_X4_sampleAt x1 x2 x3 w) := by
  unfold f_X4_sampleAt
  refine r_iload_n dX4_sampleAt_0 1 rfl ?_
  refine r_bipush (v := 12) dX4_sampleAt_1 (by decide) ?_
  refine r_imul dX4_sampleAt_3 ?_
  refine r_iload_n dX4_sampleAt_4 2 rfl ?_
  refine r_iconst (v := 4) dX4_sampleAt_5 (by decide) ?_
  refine r_imul dX4_sampleAt_6 ?_
  refine r_iadd dX4_sampleAt_7 ?_
  refine r_iload_n dX4_sampleAt_8 3 rfl ?_
  refine r_iadd dX4_sampleAt_9 ?_
  refine r_leti (fun y1 => ?_)
  refine r_istore (lv' := [(0, Value.ref (aC Z 10)), (1, Value.int x1), (2, Value.int x2), (3, Value.int x3), (4, Value.int y1)]) dX4_sampleAt_10 (Nat.le_of_ble_eq_true rfl) [1, 2, 3, 4, 0] rfl ?_
  refine r_iload dX4_sampleAt_12 4 rfl ?_
  refine r_iconst (v := 0) dX4_sampleAt_14 (by decide) ?_
  refine r_aload_n dX4_sampleAt_15 0 rfl ?_
  refine r_get FX4 4 (Nat.le_of_ble_eq_true rfl) kf_X4_25 10 (qC_10 Z w) rfl dX4_sampleAt_16 ?_
  refine r_alen (v := 384) (qC_13 Z w) rfl rfl dX4_sampleAt_19 ?_
  refine r_iconst (v := 1) dX4_sampleAt_20 (by decide) ?_
  refine r_isub dX4_sampleAt_21 ?_
  refine r_callSN_I [Value.int y1, Value.int (0 : Int32), Value.int ((384 : Int32) - (1 : Int32))] cfX5_within (m_X5_within Z w y1 (0 : Int32) ((384 : Int32) - (1 : Int32))) (n_X4_40 Z) ⟨rfl, rfl, (Nat.le_of_ble_eq_true rfl), (Nat.le_of_ble_eq_true rfl)⟩ rfl rfl (Nat.le_of_ble_eq_true rfl) dX4_sampleAt_22 (fun v2 => ?_)
  refine r_if_eq (tgt := 38) dX4_sampleAt_25 (by decide) (fun _ => ?_) (fun _ => ?_)
  · refine r_iconst (v := 0) dX4_sampleAt_38 (by decide) ?_
    refine r_lv [] rfl ?_
    exact wk_X4_sampleAt_b39 Z w (0 : Int32)
  · refine r_aload_n dX4_sampleAt_28 0 rfl ?_
    refine r_get FX4 4 (Nat.le_of_ble_eq_true rfl) kf_X4_25 10 (qC_10 Z w) rfl dX4_sampleAt_29 ?_
    refine r_iload dX4_sampleAt_32 4 rfl ?_
    refine r_iald 13 (qC_13 Z w) rfl dX4_sampleAt_34 ?_
    refine r_goto (tgt := 39) dX4_sampleAt_35 (by decide) ?_
    refine r_lv [] rfl ?_
    exact wk_X4_sampleAt_b39 Z w (w.1 13 (y1).toNatClampNeg)
theorem m_X4_sampleAt (Z : CSp) (w : Wd) (x1 : Int32) (x2 : Int32) (x3 : Int32) : MetM (EC Z) yX4_sampleAt cX4_sampleAt 5 (some .int) { frames := 1, cells := 0, slots := 0, locals := 22 } (oI w) [Value.ref (aC Z 10), Value.int x1, Value.int x2, Value.int x3] w (f_X4_sampleAt x1 x2 x3 w) := MetM_of (plainFor_of_name (by decide)) (Nat.le_of_ble_eq_true rfl) (wk_X4_sampleAt Z w x1 x2 x3)
abbrev MX4_across : Mt := (cX4_across, RX4, 3, some .int, { frames := 2, cells := 0, slots := 0, locals := 46 })
def f_X4_across (x1 : Int32) (x2 : Int32) (w : Wd) : Option (Int32) :=
  (f_X4_sampleAt x1 x2 (0 : Int32) w).bind (fun v1 => (f_X4_sampleAt x1 x2 (2 : Int32) w).bind (fun v2 => some (v1 - v2)))
set_option maxRecDepth 100000 in
set_option maxHeartbeats 4000000 in
theorem wk_X4_across (Z : CSp) (w : Wd) (x1 : Int32) (x2 : Int32)  : Wm (EC Z) MX4_across (oI w) w 0 [(0, Value.ref (aC Z 10)), (1, Value.int x1), (2, Value.int x2)] [] (f_X4_across x1 x2 w) := by
  unfold f_X4_across
  refine r_aload_n dX4_across_0 0 rfl ?_
  refine r_iload_n dX4_across_1 1 rfl ?_
  refine r_iload_n dX4_across_2 2 rfl ?_
  refine r_iconst (v := 0) dX4_across_3 (by decide) ?_
  refine r_callV_I [Value.int x1, Value.int x2, Value.int (0 : Int32)] cfX4_sampleAt (m_X4_sampleAt Z w x1 x2 (0 : Int32)) km_X4_87 ⟨rfl, rfl, (Nat.le_of_ble_eq_true rfl), (Nat.le_of_ble_eq_true rfl)⟩ rfl rfl 10 (qC_10 Z w) rfl rfl (Nat.le_of_ble_eq_true rfl) dX4_across_4 (fun v1 => ?_)
  refine r_aload_n dX4_across_7 0 rfl ?_
  refine r_iload_n dX4_across_8 1 rfl ?_
  refine r_iload_n dX4_across_9 2 rfl ?_
  refine r_iconst (v := 2) dX4_across_10 (by decide) ?_
  refine r_callV_I [Value.int x1, Value.int x2, Value.int (2 : Int32)] cfX4_sampleAt (m_X4_sampleAt Z w x1 x2 (2 : Int32)) km_X4_87 ⟨rfl, rfl, (Nat.le_of_ble_eq_true rfl), (Nat.le_of_ble_eq_true rfl)⟩ rfl rfl 10 (qC_10 Z w) rfl rfl (Nat.le_of_ble_eq_true rfl) dX4_across_11 (fun v2 => ?_)
  refine r_isub dX4_across_14 ?_
  exact r_iret rfl dX4_across_15
theorem m_X4_across (Z : CSp) (w : Wd) (x1 : Int32) (x2 : Int32) : MetM (EC Z) yX4_across cX4_across 3 (some .int) { frames := 2, cells := 0, slots := 0, locals := 46 } (oI w) [Value.ref (aC Z 10), Value.int x1, Value.int x2] w (f_X4_across x1 x2 w) := MetM_of (plainFor_of_name (by decide)) (Nat.le_of_ble_eq_true rfl) (wk_X4_across Z w x1 x2)
abbrev MX4_along : Mt := (cX4_along, RX4, 3, some .int, { frames := 2, cells := 0, slots := 0, locals := 46 })
def f_X4_along (x1 : Int32) (x2 : Int32) (w : Wd) : Option (Int32) :=
  (f_X4_sampleAt x1 x2 (1 : Int32) w).bind (fun v1 => (f_X4_sampleAt x1 x2 (3 : Int32) w).bind (fun v2 => some (v1 - v2)))
set_option maxRecDepth 100000 in
set_option maxHeartbeats 4000000 in
theorem wk_X4_along (Z : CSp) (w : Wd) (x1 : Int32) (x2 : Int32)  : Wm (EC Z) MX4_along (oI w) w 0 [(0, Value.ref (aC Z 10)), (1, Value.int x1), (2, Value.int x2)] [] (f_X4_along x1 x2 w) := by
  unfold f_X4_along
  refine r_aload_n dX4_along_0 0 rfl ?_
  refine r_iload_n dX4_along_1 1 rfl ?_
  refine r_iload_n dX4_along_2 2 rfl ?_
  refine r_iconst (v := 1) dX4_along_3 (by decide) ?_
  refine r_callV_I [Value.int x1, Value.int x2, Value.int (1 : Int32)] cfX4_sampleAt (m_X4_sampleAt Z w x1 x2 (1 : Int32)) km_X4_87 ⟨rfl, rfl, (Nat.le_of_ble_eq_true rfl), (Nat.le_of_ble_eq_true rfl)⟩ rfl rfl 10 (qC_10 Z w) rfl rfl (Nat.le_of_ble_eq_true rfl) dX4_along_4 (fun v1 => ?_)
  refine r_aload_n dX4_along_7 0 rfl ?_
  refine r_iload_n dX4_along_8 1 rfl ?_
  refine r_iload_n dX4_along_9 2 rfl ?_
  refine r_iconst (v := 3) dX4_along_10 (by decide) ?_
  refine r_callV_I [Value.int x1, Value.int x2, Value.int (3 : Int32)] cfX4_sampleAt (m_X4_sampleAt Z w x1 x2 (3 : Int32)) km_X4_87 ⟨rfl, rfl, (Nat.le_of_ble_eq_true rfl), (Nat.le_of_ble_eq_true rfl)⟩ rfl rfl 10 (qC_10 Z w) rfl rfl (Nat.le_of_ble_eq_true rfl) dX4_along_11 (fun v2 => ?_)
  refine r_isub dX4_along_14 ?_
  exact r_iret rfl dX4_along_15
theorem m_X4_along (Z : CSp) (w : Wd) (x1 : Int32) (x2 : Int32) : MetM (EC Z) yX4_along cX4_along 3 (some .int) { frames := 2, cells := 0, slots := 0, locals := 46 } (oI w) [Value.ref (aC Z 10), Value.int x1, Value.int x2] w (f_X4_along x1 x2 w) := MetM_of (plainFor_of_name (by decide)) (Nat.le_of_ble_eq_true rfl) (wk_X4_along Z w x1 x2)
abbrev MX4_isCell : Mt := (cX4_isCell, RX4, 1, some .boolean, { frames := 1, cells := 0, slots := 0, locals := 22 })
def f_X4_isCell (x0 : Int32) : Option (Int32) :=
  (f_X5_within x0 (0 : Int32) (31 : Int32)).bind (fun v1 => if zb v1 = true then some v1 else none)
set_option maxRecDepth 100000 in
set_option maxHeartbeats 4000000 in
theorem wk_X4_isCell (Z : CSp) (w : Wd) (x0 : Int32)  : Wm (EC Z) MX4_isCell (oI w) w 0 [(0, Value.int x0)] [] (f_X4_isCell x0) := by
  unfold f_X4_isCell
  refine r_iload_n dX4_isCell_0 0 rfl ?_
  refine r_iconst (v := 0) dX4_isCell_1 (by decide) ?_
  refine r_bipush (v := 31) dX4_isCell_2 (by decide) ?_
  refine r_callSN_I [Value.int x0, Value.int (0 : Int32), Value.int (31 : Int32)] cfX5_within (m_X5_within Z w x0 (0 : Int32) (31 : Int32)) (n_X4_40 Z) ⟨rfl, rfl, (Nat.le_of_ble_eq_true rfl), (Nat.le_of_ble_eq_true rfl)⟩ rfl rfl (Nat.le_of_ble_eq_true rfl) dX4_isCell_4 (fun v1 => ?_)
  exact r_zret rfl dX4_isCell_7
theorem m_X4_isCell (Z : CSp) (w : Wd) (x0 : Int32) : MetM (EC Z) yX4_isCell cX4_isCell 1 (some .boolean) { frames := 1, cells := 0, slots := 0, locals := 22 } (oI w) [Value.int x0] w (f_X4_isCell x0) := MetM_of (plainFor_of_name (by decide)) (Nat.le_of_ble_eq_true rfl) (wk_X4_isCell Z w x0)
abbrev MX4_countFrom : Mt := (cX4_countFrom, RX4, 5, some .int, { frames := 2, cells := 0, slots := 0, locals := 42 })
def f_X4_countFrom_b43 (x1 : Int32) (x2 : Int32) (x4 : Int32) (s0 : Int32) (s1 : Int32) (k14 : Int32 → Int32 → Option (Int32)) (w : Wd) : Option (Int32) :=
  jlet (s1 + s0) (fun y2 => k14 y2 (x4 + 1))
set_option maxRecDepth 100000 in
set_option maxHeartbeats 4000000 in
theorem wk_X4_countFrom_b43 (Z : CSp) (w : Wd) (x1 : Int32) (x2 : Int32) (x4 : Int32) (s0 : Int32) (s1 : Int32) (k14 : Int32 → Int32 → Option (Int32)) (hk14 : ∀ (x3 : Int32) (x4 : Int32), Wm (EC Z) MX4_countFrom (oI w) w 14 [(0, Value.ref (aC Z 10)), (1, Value.int x1), (2, Value.int x2), (3, Value.int x3), (4, Value.int x4)] [] (k14 x3 x4)) : Wm (EC Z) MX4_countFrom (oI w) w 43 [(0, Value.ref (aC Z 10)), (1, Value.int x1), (2, Value.int x2), (4, Value.int x4)] [Value.int s0, Value.int s1] (f_X4_countFrom_b43 x1 x2 x4 s0 s1 k14 w) := by
  unfold f_X4_countFrom_b43
  refine r_iadd dX4_countFrom_43 ?_
  refine r_leti (fun y2 => ?_)
  refine r_istore_n (lv' := [(0, Value.ref (aC Z 10)), (1, Value.int x1), (2, Value.int x2), (3, Value.int y2), (4, Value.int x4)]) dX4_countFrom_44 (Nat.le_of_ble_eq_true rfl) [1, 2, 3, 0, 4] rfl ?_
  refine r_iinc (lv' := [(0, Value.ref (aC Z 10)), (1, Value.int x1), (2, Value.int x2), (3, Value.int y2), (4, Value.int (x4 + 1))]) dX4_countFrom_45 4 rfl (by rfl) (Nat.le_of_ble_eq_true rfl) [1, 2, 3, 4, 0] rfl ?_
  refine r_goto (tgt := 14) dX4_countFrom_48 (by decide) ?_
  exact hk14 y2 (x4 + 1)
def f_X4_countFrom_b14 (x1 : Int32) (x2 : Int32) (w : Wd) : Nat → Int32 → Int32 → Option (Int32)
  | 0, _, _ => none
  | n + 1, x3, x4 =>
  if (12 : Int32) ≤ x4 then (some x3) else (if inb ((x1 * (12 : Int32)) + x4) 384 = true then (if (w.1 13 ((x1 * (12 : Int32)) + x4).toNatClampNeg) < x2 then (f_X4_countFrom_b43 x1 x2 x4 (0 : Int32) x3 (f_X4_countFrom_b14 x1 x2 w n) w) else (f_X4_countFrom_b43 x1 x2 x4 (1 : Int32) x3 (f_X4_countFrom_b14 x1 x2 w n) w)) else none)
set_option maxRecDepth 100000 in
set_option maxHeartbeats 4000000 in
theorem wk_X4_countFrom_b14 (Z : CSp) (w : Wd) (x1 : Int32) (x2 : Int32)  : ∀ (n : Nat) (x3 : Int32) (x4 : Int32), Wm (EC Z) MX4_countFrom (oI w) w 14 [(0, Value.ref (aC Z 10)), (1, Value.int x1), (2, Value.int x2), (3, Value.int x3), (4, Value.int x4)] [] (f_X4_countFrom_b14 x1 x2 w n x3 x4) := by
  intro n
  induction n with
  | zero =>
    intro x3 x4
    exact r_none
  | succ n ih =>
    intro x3 x4
    rw [f_X4_countFrom_b14]
    refine r_iload dX4_countFrom_14 4 rfl ?_
    refine r_bipush (v := 12) dX4_countFrom_16 (by decide) ?_
    refine r_icmp_ge (tgt := 51) dX4_countFrom_18 (by decide) (fun _ => ?_) (fun _ => ?_)
    · refine r_iload_n dX4_countFrom_51 3 rfl ?_
      exact r_iret rfl dX4_countFrom_52
    · refine r_iload_n dX4_countFrom_21 3 rfl ?_
      refine r_aload_n dX4_countFrom_22 0 rfl ?_
      refine r_get FX4 4 (Nat.le_of_ble_eq_true rfl) kf_X4_25 10 (qC_10 Z w) rfl dX4_countFrom_23 ?_
      refine r_iload_n dX4_countFrom_26 1 rfl ?_
      refine r_bipush (v := 12) dX4_countFrom_27 (by decide) ?_
      refine r_imul dX4_countFrom_29 ?_
      refine r_iload dX4_countFrom_30 4 rfl ?_
      refine r_iadd dX4_countFrom_32 ?_
      refine r_iald 13 (qC_13 Z w) rfl dX4_countFrom_33 ?_
      refine r_iload_n dX4_countFrom_34 2 rfl ?_
      refine r_icmp_lt (tgt := 42) dX4_countFrom_35 (by decide) (fun _ => ?_) (fun _ => ?_)
      · refine r_iconst (v := 0) dX4_countFrom_42 (by decide) ?_
        refine r_lv [0, 1, 2, 4] rfl ?_
        exact wk_X4_countFrom_b43 Z w x1 x2 x4 (0 : Int32) x3 _ (ih)
      · refine r_iconst (v := 1) dX4_countFrom_38 (by decide) ?_
        refine r_goto (tgt := 43) dX4_countFrom_39 (by decide) ?_
        refine r_lv [0, 1, 2, 4] rfl ?_
        exact wk_X4_countFrom_b43 Z w x1 x2 x4 (1 : Int32) x3 _ (ih)
def f_X4_countFrom (x1 : Int32) (x2 : Int32) (w : Wd) : Option (Int32) :=
  (f_X4_isCell x1).bind (fun v1 => if v1 = 0 then (some (0 : Int32)) else (f_X4_countFrom_b14 x1 x2 w FUEL (0 : Int32) (0 : Int32)))
set_option maxRecDepth 100000 in
set_option maxHeartbeats 4000000 in
theorem wk_X4_countFrom (Z : CSp) (w : Wd) (x1 : Int32) (x2 : Int32)  : Wm (EC Z) MX4_countFrom (oI w) w 0 [(0, Value.ref (aC Z 10)), (1, Value.int x1), (2, Value.int x2)] [] (f_X4_countFrom x1 x2 w) := by
  unfold f_X4_countFrom
  refine r_iload_n dX4_countFrom_0 1 rfl ?_
  refine r_callS_I [Value.int x1] cfX4_isCell (m_X4_isCell Z w x1) km_X4_56 ⟨rfl, rfl, (Nat.le_of_ble_eq_true rfl), (Nat.le_of_ble_eq_true rfl)⟩ rfl rfl (Nat.le_of_ble_eq_true rfl) dX4_countFrom_1 (fun v1 => ?_)
  refine r_if_ne (tgt := 9) dX4_countFrom_4 (by decide) (fun _ => ?_) (fun _ => ?_)
  · refine r_iconst (v := 0) dX4_countFrom_9 (by decide) ?_
    refine r_istore_n (lv' := [(0, Value.ref (aC Z 10)), (1, Value.int x1), (2, Value.int x2), (3, Value.int (0 : Int32))]) dX4_countFrom_10 (Nat.le_of_ble_eq_true rfl) [1, 2, 3, 0] rfl ?_
    refine r_iconst (v := 0) dX4_countFrom_11 (by decide) ?_
    refine r_istore (lv' := [(0, Value.ref (aC Z 10)), (1, Value.int x1), (2, Value.int x2), (3, Value.int (0 : Int32)), (4, Value.int (0 : Int32))]) dX4_countFrom_12 (Nat.le_of_ble_eq_true rfl) [1, 2, 3, 4, 0] rfl ?_
    exact wk_X4_countFrom_b14 Z w x1 x2 FUEL (0 : Int32) (0 : Int32)
  · refine r_iconst (v := 0) dX4_countFrom_7 (by decide) ?_
    exact r_iret rfl dX4_countFrom_8
theorem m_X4_countFrom (Z : CSp) (w : Wd) (x1 : Int32) (x2 : Int32) : MetM (EC Z) yX4_countFrom cX4_countFrom 5 (some .int) { frames := 2, cells := 0, slots := 0, locals := 42 } (oI w) [Value.ref (aC Z 10), Value.int x1, Value.int x2] w (f_X4_countFrom x1 x2 w) := MetM_of (plainFor_of_name (by decide)) (Nat.le_of_ble_eq_true rfl) (wk_X4_countFrom Z w x1 x2)
abbrev MX4_strengthOf : Mt := (cX4_strengthOf, RX4, 3, some .float, { frames := 3, cells := 0, slots := 0, locals := 68 })
def f_X4_strengthOf (x1 : Int32) (x2 : Int32) (w : Wd) : Option (UInt32) :=
  (f_X4_across x1 x2 w).bind (fun v1 => (f_X4_along x1 x2 w).bind (fun v2 => (f_X3_strength v1 v2).bind (fun v3 => some v3)))
set_option maxRecDepth 100000 in
set_option maxHeartbeats 4000000 in
theorem wk_X4_strengthOf (Z : CSp) (w : Wd) (x1 : Int32) (x2 : Int32)  : Wm (EC Z) MX4_strengthOf (oF w) w 0 [(0, Value.ref (aC Z 10)), (1, Value.int x1), (2, Value.int x2)] [] (f_X4_strengthOf x1 x2 w) := by
  unfold f_X4_strengthOf
  refine r_aload_n dX4_strengthOf_0 0 rfl ?_
  refine r_iload_n dX4_strengthOf_1 1 rfl ?_
  refine r_iload_n dX4_strengthOf_2 2 rfl ?_
  refine r_callV_I [Value.int x1, Value.int x2] cfX4_across (m_X4_across Z w x1 x2) km_X4_91 ⟨rfl, rfl, (Nat.le_of_ble_eq_true rfl), (Nat.le_of_ble_eq_true rfl)⟩ rfl rfl 10 (qC_10 Z w) rfl rfl (Nat.le_of_ble_eq_true rfl) dX4_strengthOf_3 (fun v1 => ?_)
  refine r_aload_n dX4_strengthOf_6 0 rfl ?_
  refine r_iload_n dX4_strengthOf_7 1 rfl ?_
  refine r_iload_n dX4_strengthOf_8 2 rfl ?_
  refine r_callV_I [Value.int x1, Value.int x2] cfX4_along (m_X4_along Z w x1 x2) km_X4_94 ⟨rfl, rfl, (Nat.le_of_ble_eq_true rfl), (Nat.le_of_ble_eq_true rfl)⟩ rfl rfl 10 (qC_10 Z w) rfl rfl (Nat.le_of_ble_eq_true rfl) dX4_strengthOf_9 (fun v2 => ?_)
  refine r_callS_F [Value.int v1, Value.int v2] cfX3_strength (m_X3_strength Z w v1 v2) km_X4_97 ⟨rfl, rfl, (Nat.le_of_ble_eq_true rfl), (Nat.le_of_ble_eq_true rfl)⟩ rfl rfl (Nat.le_of_ble_eq_true rfl) dX4_strengthOf_12 (fun v3 => ?_)
  exact r_fret rfl dX4_strengthOf_15
theorem m_X4_strengthOf (Z : CSp) (w : Wd) (x1 : Int32) (x2 : Int32) : MetM (EC Z) yX4_strengthOf cX4_strengthOf 3 (some .float) { frames := 3, cells := 0, slots := 0, locals := 68 } (oF w) [Value.ref (aC Z 10), Value.int x1, Value.int x2] w (f_X4_strengthOf x1 x2 w) := MetM_of (plainFor_of_name (by decide)) (Nat.le_of_ble_eq_true rfl) (wk_X4_strengthOf Z w x1 x2)
abbrev MX4_brightness : Mt := (cX4_brightness, RX4, 2, some .float, { frames := 4, cells := 0, slots := 0, locals := 90 })
def f_X4_brightness (x1 : Int32) (w : Wd) : Option (UInt32) :=
  (f_X4_strengthOf x1 (0 : Int32) w).bind (fun v1 => (f_X4_strengthOf x1 (1 : Int32) w).bind (fun v2 => if nn32 (FP.fadd v1 v2) = true then ((f_X4_strengthOf x1 (2 : Int32) w).bind (fun v3 => if nn32 (FP.fadd (FP.fadd v1 v2) v3) = true then (some (FP.fadd (FP.fadd v1 v2) v3)) else none)) else none))
set_option maxRecDepth 100000 in
set_option maxHeartbeats 4000000 in
theorem wk_X4_brightness (Z : CSp) (w : Wd) (x1 : Int32)  : Wm (EC Z) MX4_brightness (oF w) w 0 [(0, Value.ref (aC Z 10)), (1, Value.int x1)] [] (f_X4_brightness x1 w) := by
  unfold f_X4_brightness
  refine r_aload_n dX4_brightness_0 0 rfl ?_
  refine r_iload_n dX4_brightness_1 1 rfl ?_
  refine r_iconst (v := 0) dX4_brightness_2 (by decide) ?_
  refine r_callV_F [Value.int x1, Value.int (0 : Int32)] cfX4_strengthOf (m_X4_strengthOf Z w x1 (0 : Int32)) km_X4_103 ⟨rfl, rfl, (Nat.le_of_ble_eq_true rfl), (Nat.le_of_ble_eq_true rfl)⟩ rfl rfl 10 (qC_10 Z w) rfl rfl (Nat.le_of_ble_eq_true rfl) dX4_brightness_3 (fun v1 => ?_)
  refine r_aload_n dX4_brightness_6 0 rfl ?_
  refine r_iload_n dX4_brightness_7 1 rfl ?_
  refine r_iconst (v := 1) dX4_brightness_8 (by decide) ?_
  refine r_callV_F [Value.int x1, Value.int (1 : Int32)] cfX4_strengthOf (m_X4_strengthOf Z w x1 (1 : Int32)) km_X4_103 ⟨rfl, rfl, (Nat.le_of_ble_eq_true rfl), (Nat.le_of_ble_eq_true rfl)⟩ rfl rfl 10 (qC_10 Z w) rfl rfl (Nat.le_of_ble_eq_true rfl) dX4_brightness_9 (fun v2 => ?_)
  refine r_fadd dX4_brightness_12 ?_
  refine r_aload_n dX4_brightness_13 0 rfl ?_
  refine r_iload_n dX4_brightness_14 1 rfl ?_
  refine r_iconst (v := 2) dX4_brightness_15 (by decide) ?_
  refine r_callV_F [Value.int x1, Value.int (2 : Int32)] cfX4_strengthOf (m_X4_strengthOf Z w x1 (2 : Int32)) km_X4_103 ⟨rfl, rfl, (Nat.le_of_ble_eq_true rfl), (Nat.le_of_ble_eq_true rfl)⟩ rfl rfl 10 (qC_10 Z w) rfl rfl (Nat.le_of_ble_eq_true rfl) dX4_brightness_16 (fun v3 => ?_)
  refine r_fadd dX4_brightness_19 ?_
  exact r_fret rfl dX4_brightness_20
theorem m_X4_brightness (Z : CSp) (w : Wd) (x1 : Int32) : MetM (EC Z) yX4_brightness cX4_brightness 2 (some .float) { frames := 4, cells := 0, slots := 0, locals := 90 } (oF w) [Value.ref (aC Z 10), Value.int x1] w (f_X4_brightness x1 w) := MetM_of (plainFor_of_name (by decide)) (Nat.le_of_ble_eq_true rfl) (wk_X4_brightness Z w x1)
abbrev MX4_place : Mt := (cX4_place, RX4, 5, some .int, { frames := 1, cells := 0, slots := 0, locals := 22 })
def f_X4_place_b62 (s0 : Int32) (w : Wd) : Option (Int32) :=
  some s0
set_option maxRecDepth 100000 in
set_option maxHeartbeats 4000000 in
theorem wk_X4_place_b62 (Z : CSp) (w : Wd) (s0 : Int32)  : Wm (EC Z) MX4_place (oI w) w 62 [] [Value.int s0] (f_X4_place_b62 s0 w) := by
  unfold f_X4_place_b62
  exact r_iret rfl dX4_place_62
def f_X4_place_b42 (x1 : Int32) (x2 : Int32) (x3 : Int32) (s0 : Int32) (w : Wd) : Option (Int32) :=
  if s0 = 0 then (f_X4_place_b62 (-1 : Int32) w) else (f_X4_place_b62 ((((x1 * (4 : Int32)) + x3) * (4 : Int32)) + x2) w)
set_option maxRecDepth 100000 in
set_option maxHeartbeats 4000000 in
theorem wk_X4_place_b42 (Z : CSp) (w : Wd) (x1 : Int32) (x2 : Int32) (x3 : Int32) (s0 : Int32)  : Wm (EC Z) MX4_place (oI w) w 42 [(1, Value.int x1), (2, Value.int x2), (3, Value.int x3)] [Value.int s0] (f_X4_place_b42 x1 x2 x3 s0 w) := by
  unfold f_X4_place_b42
  refine r_istore (lv' := [(1, Value.int x1), (2, Value.int x2), (3, Value.int x3), (4, Value.int s0)]) dX4_place_42 (Nat.le_of_ble_eq_true rfl) [1, 2, 3, 0] rfl ?_
  refine r_iload dX4_place_44 3 rfl ?_
  refine r_if_eq (tgt := 61) dX4_place_46 (by decide) (fun _ => ?_) (fun _ => ?_)
  · refine r_iconst (v := -1) dX4_place_61 (by decide) ?_
    refine r_lv [] rfl ?_
    exact wk_X4_place_b62 Z w (-1 : Int32)
  · refine r_iload_n dX4_place_49 0 rfl ?_
    refine r_iconst (v := 4) dX4_place_50 (by decide) ?_
    refine r_imul dX4_place_51 ?_
    refine r_iload_n dX4_place_52 2 rfl ?_
    refine r_iadd dX4_place_53 ?_
    refine r_iconst (v := 4) dX4_place_54 (by decide) ?_
    refine r_imul dX4_place_55 ?_
    refine r_iload_n dX4_place_56 1 rfl ?_
    refine r_iadd dX4_place_57 ?_
    refine r_goto (tgt := 62) dX4_place_58 (by decide) ?_
    refine r_lv [] rfl ?_
    exact wk_X4_place_b62 Z w ((((x1 * (4 : Int32)) + x3) * (4 : Int32)) + x2)
def f_X4_place_b41 (x1 : Int32) (x2 : Int32) (x3 : Int32) (w : Wd) : Option (Int32) :=
  f_X4_place_b42 x1 x2 x3 (0 : Int32) w
set_option maxRecDepth 100000 in
set_option maxHeartbeats 4000000 in
theorem wk_X4_place_b41 (Z : CSp) (w : Wd) (x1 : Int32) (x2 : Int32) (x3 : Int32)  : Wm (EC Z) MX4_place (oI w) w 41 [(1, Value.int x1), (2, Value.int x2), (3, Value.int x3)] [] (f_X4_place_b41 x1 x2 x3 w) := by
  unfold f_X4_place_b41
  refine r_iconst (v := 0) dX4_place_41 (by decide) ?_
  exact wk_X4_place_b42 Z w x1 x2 x3 (0 : Int32)
def f_X4_place (x1 : Int32) (x2 : Int32) (x3 : Int32) (w : Wd) : Option (Int32) :=
  (f_X5_within x1 (0 : Int32) (1 : Int32)).bind (fun v1 => if v1 = 0 then (f_X4_place_b41 x1 x2 x3 w) else ((f_X5_within x2 (0 : Int32) ((w.1 10 0) - (1 : Int32))).bind (fun v2 => if v2 = 0 then (f_X4_place_b41 x1 x2 x3 w) else ((f_X5_within x3 (0 : Int32) ((w.1 10 1) - (1 : Int32))).bind (fun v3 => if v3 = 0 then (f_X4_place_b41 x1 x2 x3 w) else (f_X4_place_b42 x1 x2 x3 (1 : Int32) w))))))
set_option maxRecDepth 100000 in
set_option maxHeartbeats 4000000 in
theorem wk_X4_place (Z : CSp) (w : Wd) (x1 : Int32) (x2 : Int32) (x3 : Int32)  : Wm (EC Z) MX4_place (oI w) w 0 [(0, Value.ref (aC Z 10)), (1, Value.int x1), (2, Value.int x2), (3, Value.int x3)] [] (f_X4_place x1 x2 x3 w) := by
  unfold f_X4_place
  refine r_iload_n dX4_place_0 1 rfl ?_
  refine r_iconst (v := 0) dX4_place_1 (by decide) ?_
  refine r_iconst (v := 1) dX4_place_2 (by decide) ?_
  refine r_callSN_I [Value.int x1, Value.int (0 : Int32), Value.int (1 : Int32)] cfX5_within (m_X5_within Z w x1 (0 : Int32) (1 : Int32)) (n_X4_40 Z) ⟨rfl, rfl, (Nat.le_of_ble_eq_true rfl), (Nat.le_of_ble_eq_true rfl)⟩ rfl rfl (Nat.le_of_ble_eq_true rfl) dX4_place_3 (fun v1 => ?_)
  refine r_if_eq (tgt := 41) dX4_place_6 (by decide) (fun _ => ?_) (fun _ => ?_)
  · refine r_lv [1, 2, 3] rfl ?_
    exact wk_X4_place_b41 Z w x1 x2 x3
  · refine r_iload_n dX4_place_9 2 rfl ?_
    refine r_iconst (v := 0) dX4_place_10 (by decide) ?_
    refine r_aload_n dX4_place_11 0 rfl ?_
    refine r_get FX4 0 (Nat.le_of_ble_eq_true rfl) kf_X4_9 10 (qC_10 Z w) rfl dX4_place_12 ?_
    refine r_iconst (v := 1) dX4_place_15 (by decide) ?_
    refine r_isub dX4_place_16 ?_
    refine r_callSN_I [Value.int x2, Value.int (0 : Int32), Value.int ((w.1 10 0) - (1 : Int32))] cfX5_within (m_X5_within Z w x2 (0 : Int32) ((w.1 10 0) - (1 : Int32))) (n_X4_40 Z) ⟨rfl, rfl, (Nat.le_of_ble_eq_true rfl), (Nat.le_of_ble_eq_true rfl)⟩ rfl rfl (Nat.le_of_ble_eq_true rfl) dX4_place_17 (fun v2 => ?_)
    refine r_if_eq (tgt := 41) dX4_place_20 (by decide) (fun _ => ?_) (fun _ => ?_)
    · refine r_lv [1, 2, 3] rfl ?_
      exact wk_X4_place_b41 Z w x1 x2 x3
    · refine r_iload_n dX4_place_23 3 rfl ?_
      refine r_iconst (v := 0) dX4_place_24 (by decide) ?_
      refine r_aload_n dX4_place_25 0 rfl ?_
      refine r_get FX4 1 (Nat.le_of_ble_eq_true rfl) kf_X4_15 10 (qC_10 Z w) rfl dX4_place_26 ?_
      refine r_iconst (v := 1) dX4_place_29 (by decide) ?_
      refine r_isub dX4_place_30 ?_
      refine r_callSN_I [Value.int x3, Value.int (0 : Int32), Value.int ((w.1 10 1) - (1 : Int32))] cfX5_within (m_X5_within Z w x3 (0 : Int32) ((w.1 10 1) - (1 : Int32))) (n_X4_40 Z) ⟨rfl, rfl, (Nat.le_of_ble_eq_true rfl), (Nat.le_of_ble_eq_true rfl)⟩ rfl rfl (Nat.le_of_ble_eq_true rfl) dX4_place_31 (fun v3 => ?_)
      refine r_if_eq (tgt := 41) dX4_place_34 (by decide) (fun _ => ?_) (fun _ => ?_)
      · refine r_lv [1, 2, 3] rfl ?_
        exact wk_X4_place_b41 Z w x1 x2 x3
      · refine r_iconst (v := 1) dX4_place_37 (by decide) ?_
        refine r_goto (tgt := 42) dX4_place_38 (by decide) ?_
        refine r_lv [1, 2, 3] rfl ?_
        exact wk_X4_place_b42 Z w x1 x2 x3 (1 : Int32)
theorem m_X4_place (Z : CSp) (w : Wd) (x1 : Int32) (x2 : Int32) (x3 : Int32) : MetM (EC Z) yX4_place cX4_place 5 (some .int) { frames := 1, cells := 0, slots := 0, locals := 22 } (oI w) [Value.ref (aC Z 10), Value.int x1, Value.int x2, Value.int x3] w (f_X4_place x1 x2 x3 w) := MetM_of (plainFor_of_name (by decide)) (Nat.le_of_ble_eq_true rfl) (wk_X4_place Z w x1 x2 x3)
abbrev MX4_brighten : Mt := (cX4_brighten, RX4, 3, none, { frames := 1, cells := 0, slots := 0, locals := 22 })
def f_X4_brighten_b35 (w : Wd) : Option (Wd) :=
  some w
set_option maxRecDepth 100000 in
set_option maxHeartbeats 4000000 in
theorem wk_X4_brighten_b35 (Z : CSp) (w : Wd)   : Wm (EC Z) MX4_brighten oVw w 35 [] [] (f_X4_brighten_b35 w) := by
  unfold f_X4_brighten_b35
  exact r_vret rfl dX4_brighten_35
def f_X4_brighten (x1 : Int32) (x2 : Int32) (w : Wd) : Option (Wd) :=
  (f_X5_within x1 (0 : Int32) ((384 : Int32) - (1 : Int32))).bind (fun v1 => if v1 = 0 then (f_X4_brighten_b35 w) else (if inb x1 384 = true then (if inb x1 384 = true then (wput w 13 (x1).toNatClampNeg (if ((w.1 13 (x1).toNatClampNeg) + x2) < (4095 : Int32) then ((w.1 13 (x1).toNatClampNeg) + x2) else (4095 : Int32)) (fun w2 => f_X4_brighten_b35 w2)) else none) else none))
set_option maxRecDepth 100000 in
set_option maxHeartbeats 4000000 in
theorem wk_X4_brighten (Z : CSp) (w : Wd) (x1 : Int32) (x2 : Int32)  : Wm (EC Z) MX4_brighten oVw w 0 [(0, Value.ref (aC Z 10)), (1, Value.int x1), (2, Value.int x2)] [] (f_X4_brighten x1 x2 w) := by
  unfold f_X4_brighten
  refine r_iload_n dX4_brighten_0 1 rfl ?_
  refine r_iconst (v := 0) dX4_brighten_1 (by decide) ?_
  refine r_aload_n dX4_brighten_2 0 rfl ?_
  refine r_get FX4 4 (Nat.le_of_ble_eq_true rfl) kf_X4_25 10 (qC_10 Z w) rfl dX4_brighten_3 ?_
  refine r_alen (v := 384) (qC_13 Z w) rfl rfl dX4_brighten_6 ?_
  refine r_iconst (v := 1) dX4_brighten_7 (by decide) ?_
  refine r_isub dX4_brighten_8 ?_
  refine r_callSN_I [Value.int x1, Value.int (0 : Int32), Value.int ((384 : Int32) - (1 : Int32))] cfX5_within (m_X5_within Z w x1 (0 : Int32) ((384 : Int32) - (1 : Int32))) (n_X4_40 Z) ⟨rfl, rfl, (Nat.le_of_ble_eq_true rfl), (Nat.le_of_ble_eq_true rfl)⟩ rfl rfl (Nat.le_of_ble_eq_true rfl) dX4_brighten_9 (fun v1 => ?_)
  refine r_if_eq (tgt := 35) dX4_brighten_12 (by decide) (fun _ => ?_) (fun _ => ?_)
  · refine r_lv [] rfl ?_
    exact wk_X4_brighten_b35 Z w
  · refine r_aload_n dX4_brighten_15 0 rfl ?_
    refine r_get FX4 4 (Nat.le_of_ble_eq_true rfl) kf_X4_25 10 (qC_10 Z w) rfl dX4_brighten_16 ?_
    refine r_iload_n dX4_brighten_19 1 rfl ?_
    refine r_sipush (v := 4095) dX4_brighten_20 (by decide) ?_
    refine r_aload_n dX4_brighten_23 0 rfl ?_
    refine r_get FX4 4 (Nat.le_of_ble_eq_true rfl) kf_X4_25 10 (qC_10 Z w) rfl dX4_brighten_24 ?_
    refine r_iload_n dX4_brighten_27 1 rfl ?_
    refine r_iald 13 (qC_13 Z w) rfl dX4_brighten_28 ?_
    refine r_iload_n dX4_brighten_29 2 rfl ?_
    refine r_iadd dX4_brighten_30 ?_
    refine r_mmin km_X4_84 ⟨(Nat.le_of_ble_eq_true rfl), (Nat.le_of_ble_eq_true rfl)⟩ dX4_brighten_31 ?_
    refine r_iast (qC_13 Z w) rfl (uC_13 Z w (if ((w.1 13 (x1).toNatClampNeg) + x2) < (4095 : Int32) then ((w.1 13 (x1).toNatClampNeg) + x2) else (4095 : Int32))) dX4_brighten_34 (fun w2 => ?_)
    refine r_lv [] rfl ?_
    exact wk_X4_brighten_b35 Z w2
theorem m_X4_brighten (Z : CSp) (w : Wd) (x1 : Int32) (x2 : Int32) : MetM (EC Z) yX4_brighten cX4_brighten 3 none { frames := 1, cells := 0, slots := 0, locals := 22 } oVw [Value.ref (aC Z 10), Value.int x1, Value.int x2] w (f_X4_brighten x1 x2 w) := MetM_of (plainFor_of_name (by decide)) (Nat.le_of_ble_eq_true rfl) (wk_X4_brighten Z w x1 x2)
abbrev MX4_addLight : Mt := (cX4_addLight, RX4, 4, some .int, { frames := 3, cells := 0, slots := 0, locals := 66 })
def f_X4_addLight_b24 (x1 : Int32) (x2 : Int32) : Nat → Int32 → Wd → Option (Int32 × Wd)
  | 0, _, _ => none
  | n + 1, x3, w =>
  if (12 : Int32) ≤ x3 then ((f_X4_countFrom x1 (4095 : Int32) w).bind (fun v3 => some (v3, w))) else ((f_X4_brighten ((x1 * (12 : Int32)) + x3) x2 w).bind (fun w4 => f_X4_addLight_b24 x1 x2 n (x3 + 1) w4))
set_option maxRecDepth 100000 in
set_option maxHeartbeats 4000000 in
theorem wk_X4_addLight_b24 (Z : CSp) (x1 : Int32) (x2 : Int32)  : ∀ (n : Nat) (x3 : Int32) (w : Wd), Wm (EC Z) MX4_addLight oIw w 24 [(0, Value.ref (aC Z 10)), (1, Value.int x1), (2, Value.int x2), (3, Value.int x3)] [] (f_X4_addLight_b24 x1 x2 n x3 w) := by
  intro n
  induction n with
  | zero =>
    intro x3 w
    exact r_none
  | succ n ih =>
    intro x3 w
    rw [f_X4_addLight_b24]
    refine r_iload_n dX4_addLight_24 3 rfl ?_
    refine r_bipush (v := 12) dX4_addLight_25 (by decide) ?_
    refine r_icmp_ge (tgt := 47) dX4_addLight_27 (by decide) (fun _ => ?_) (fun _ => ?_)
    · refine r_aload_n dX4_addLight_47 0 rfl ?_
      refine r_iload_n dX4_addLight_48 1 rfl ?_
      refine r_sipush (v := 4095) dX4_addLight_49 (by decide) ?_
      refine r_callV_I [Value.int x1, Value.int (4095 : Int32)] cfX4_countFrom (m_X4_countFrom Z w x1 (4095 : Int32)) km_X4_64 ⟨rfl, rfl, (Nat.le_of_ble_eq_true rfl), (Nat.le_of_ble_eq_true rfl)⟩ rfl rfl 10 (qC_10 Z w) rfl rfl (Nat.le_of_ble_eq_true rfl) dX4_addLight_52 (fun v3 => ?_)
      exact r_iretw rfl dX4_addLight_55
    · refine r_aload_n dX4_addLight_30 0 rfl ?_
      refine r_iload_n dX4_addLight_31 1 rfl ?_
      refine r_bipush (v := 12) dX4_addLight_32 (by decide) ?_
      refine r_imul dX4_addLight_34 ?_
      refine r_iload_n dX4_addLight_35 3 rfl ?_
      refine r_iadd dX4_addLight_36 ?_
      refine r_iload_n dX4_addLight_37 2 rfl ?_
      refine r_callV_Vw [Value.int ((x1 * (12 : Int32)) + x3), Value.int x2] cfX4_brighten (m_X4_brighten Z w ((x1 * (12 : Int32)) + x3) x2) km_X4_80 ⟨rfl, rfl, (Nat.le_of_ble_eq_true rfl), (Nat.le_of_ble_eq_true rfl)⟩ rfl rfl 10 (qC_10 Z w) rfl rfl (Nat.le_of_ble_eq_true rfl) dX4_addLight_38 (fun w4 => ?_)
      refine r_iinc (lv' := [(0, Value.ref (aC Z 10)), (1, Value.int x1), (2, Value.int x2), (3, Value.int (x3 + 1))]) dX4_addLight_41 3 rfl (by rfl) (Nat.le_of_ble_eq_true rfl) [1, 2, 3, 0] rfl ?_
      refine r_goto (tgt := 24) dX4_addLight_44 (by decide) ?_
      exact ih (x3 + 1) w4
def f_X4_addLight_b18 (w : Wd) : Option (Int32 × Wd) :=
  some ((-10002 : Int32), w)
set_option maxRecDepth 100000 in
set_option maxHeartbeats 4000000 in
theorem wk_X4_addLight_b18 (Z : CSp) (w : Wd)   : Wm (EC Z) MX4_addLight oIw w 18 [] [] (f_X4_addLight_b18 w) := by
  unfold f_X4_addLight_b18
  refine r_sipush (v := -10002) dX4_addLight_18 (by decide) ?_
  exact r_iretw rfl dX4_addLight_21
def f_X4_addLight (x1 : Int32) (x2 : Int32) (w : Wd) : Option (Int32 × Wd) :=
  (f_X4_isCell x1).bind (fun v1 => if v1 = 0 then (f_X4_addLight_b18 w) else ((f_X5_within x2 (1 : Int32) (4095 : Int32)).bind (fun v2 => if v2 = 0 then (f_X4_addLight_b18 w) else (f_X4_addLight_b24 x1 x2 FUEL (0 : Int32) w))))
set_option maxRecDepth 100000 in
set_option maxHeartbeats 4000000 in
theorem wk_X4_addLight (Z : CSp) (w : Wd) (x1 : Int32) (x2 : Int32)  : Wm (EC Z) MX4_addLight oIw w 0 [(0, Value.ref (aC Z 10)), (1, Value.int x1), (2, Value.int x2)] [] (f_X4_addLight x1 x2 w) := by
  unfold f_X4_addLight
  refine r_iload_n dX4_addLight_0 1 rfl ?_
  refine r_callS_I [Value.int x1] cfX4_isCell (m_X4_isCell Z w x1) km_X4_56 ⟨rfl, rfl, (Nat.le_of_ble_eq_true rfl), (Nat.le_of_ble_eq_true rfl)⟩ rfl rfl (Nat.le_of_ble_eq_true rfl) dX4_addLight_1 (fun v1 => ?_)
  refine r_if_eq (tgt := 18) dX4_addLight_4 (by decide) (fun _ => ?_) (fun _ => ?_)
  · refine r_lv [] rfl ?_
    exact wk_X4_addLight_b18 Z w
  · refine r_iload_n dX4_addLight_7 2 rfl ?_
    refine r_iconst (v := 1) dX4_addLight_8 (by decide) ?_
    refine r_sipush (v := 4095) dX4_addLight_9 (by decide) ?_
    refine r_callSN_I [Value.int x2, Value.int (1 : Int32), Value.int (4095 : Int32)] cfX5_within (m_X5_within Z w x2 (1 : Int32) (4095 : Int32)) (n_X4_40 Z) ⟨rfl, rfl, (Nat.le_of_ble_eq_true rfl), (Nat.le_of_ble_eq_true rfl)⟩ rfl rfl (Nat.le_of_ble_eq_true rfl) dX4_addLight_12 (fun v2 => ?_)
    refine r_if_ne (tgt := 22) dX4_addLight_15 (by decide) (fun _ => ?_) (fun _ => ?_)
    · refine r_iconst (v := 0) dX4_addLight_22 (by decide) ?_
      refine r_istore_n (lv' := [(0, Value.ref (aC Z 10)), (1, Value.int x1), (2, Value.int x2), (3, Value.int (0 : Int32))]) dX4_addLight_23 (Nat.le_of_ble_eq_true rfl) [1, 2, 3, 0] rfl ?_
      exact wk_X4_addLight_b24 Z x1 x2 FUEL (0 : Int32) w
    · refine r_lv [] rfl ?_
      exact wk_X4_addLight_b18 Z w
theorem m_X4_addLight (Z : CSp) (w : Wd) (x1 : Int32) (x2 : Int32) : MetM (EC Z) yX4_addLight cX4_addLight 4 (some .int) { frames := 3, cells := 0, slots := 0, locals := 66 } oIw [Value.ref (aC Z 10), Value.int x1, Value.int x2] w (f_X4_addLight x1 x2 w) := MetM_of (plainFor_of_name (by decide)) (Nat.le_of_ble_eq_true rfl) (wk_X4_addLight Z w x1 x2)
abbrev MX4_addSignal : Mt := (cX4_addSignal, RX4, 4, none, { frames := 2, cells := 0, slots := 0, locals := 44 })
def f_X4_addSignal_b33 (x3 : Int32) (s0 : Int32) (w : Wd) : Option (Wd) :=
  (f_X4_brighten s0 (if 0 ≤ x3 then x3 else 0 - x3) w).bind (fun w2 => some w2)
set_option maxRecDepth 100000 in
set_option maxHeartbeats 4000000 in
theorem wk_X4_addSignal_b33 (Z : CSp) (w : Wd) (x3 : Int32) (s0 : Int32)  : Wm (EC Z) MX4_addSignal oVw w 33 [(3, Value.int x3)] [Value.int s0, Value.ref (aC Z 10)] (f_X4_addSignal_b33 x3 s0 w) := by
  unfold f_X4_addSignal_b33
  refine r_iload_n dX4_addSignal_33 0 rfl ?_
  refine r_mabs km_X4_74 ⟨(Nat.le_of_ble_eq_true rfl), (Nat.le_of_ble_eq_true rfl)⟩ dX4_addSignal_34 ?_
  refine r_callV_Vw [Value.int s0, Value.int (if 0 ≤ x3 then x3 else 0 - x3)] cfX4_brighten (m_X4_brighten Z w s0 (if 0 ≤ x3 then x3 else 0 - x3)) km_X4_80 ⟨rfl, rfl, (Nat.le_of_ble_eq_true rfl), (Nat.le_of_ble_eq_true rfl)⟩ rfl rfl 10 (qC_10 Z w) rfl rfl (Nat.le_of_ble_eq_true rfl) dX4_addSignal_37 (fun w2 => ?_)
  exact r_vret rfl dX4_addSignal_40
def f_X4_addSignal_b12 (x1 : Int32) (x2 : Int32) (x3 : Int32) (s0 : Int32) (w : Wd) : Option (Wd) :=
  (f_X4_brighten s0 (if 0 ≤ x2 then x2 else 0 - x2) w).bind (fun w2 => if x3 ≤ 0 then (f_X4_addSignal_b33 x3 (x1 + (3 : Int32)) w2) else (f_X4_addSignal_b33 x3 (x1 + (1 : Int32)) w2))
set_option maxRecDepth 100000 in
set_option maxHeartbeats 4000000 in
theorem wk_X4_addSignal_b12 (Z : CSp) (w : Wd) (x1 : Int32) (x2 : Int32) (x3 : Int32) (s0 : Int32)  : Wm (EC Z) MX4_addSignal oVw w 12 [(0, Value.ref (aC Z 10)), (1, Value.int x1), (2, Value.int x2), (3, Value.int x3)] [Value.int s0, Value.ref (aC Z 10)] (f_X4_addSignal_b12 x1 x2 x3 s0 w) := by
  unfold f_X4_addSignal_b12
  refine r_iload_n dX4_addSignal_12 2 rfl ?_
  refine r_mabs km_X4_74 ⟨(Nat.le_of_ble_eq_true rfl), (Nat.le_of_ble_eq_true rfl)⟩ dX4_addSignal_13 ?_
  refine r_callV_Vw [Value.int s0, Value.int (if 0 ≤ x2 then x2 else 0 - x2)] cfX4_brighten (m_X4_brighten Z w s0 (if 0 ≤ x2 then x2 else 0 - x2)) km_X4_80 ⟨rfl, rfl, (Nat.le_of_ble_eq_true rfl), (Nat.le_of_ble_eq_true rfl)⟩ rfl rfl 10 (qC_10 Z w) rfl rfl (Nat.le_of_ble_eq_true rfl) dX4_addSignal_16 (fun w2 => ?_)
  refine r_aload_n dX4_addSignal_19 0 rfl ?_
  refine r_iload_n dX4_addSignal_20 3 rfl ?_
  refine r_if_le (tgt := 30) dX4_addSignal_21 (by decide) (fun _ => ?_) (fun _ => ?_)
  · refine r_iload_n dX4_addSignal_30 1 rfl ?_
    refine r_iconst (v := 3) dX4_addSignal_31 (by decide) ?_
    refine r_iadd dX4_addSignal_32 ?_
    refine r_lv [3] rfl ?_
    exact wk_X4_addSignal_b33 Z w2 x3 (x1 + (3 : Int32))
  · refine r_iload_n dX4_addSignal_24 1 rfl ?_
    refine r_iconst (v := 1) dX4_addSignal_25 (by decide) ?_
    refine r_iadd dX4_addSignal_26 ?_
    refine r_goto (tgt := 33) dX4_addSignal_27 (by decide) ?_
    refine r_lv [3] rfl ?_
    exact wk_X4_addSignal_b33 Z w2 x3 (x1 + (1 : Int32))
def f_X4_addSignal (x1 : Int32) (x2 : Int32) (x3 : Int32) (w : Wd) : Option (Wd) :=
  if x2 ≤ 0 then (f_X4_addSignal_b12 x1 x2 x3 (x1 + (2 : Int32)) w) else (f_X4_addSignal_b12 x1 x2 x3 x1 w)
set_option maxRecDepth 100000 in
set_option maxHeartbeats 4000000 in
theorem wk_X4_addSignal (Z : CSp) (w : Wd) (x1 : Int32) (x2 : Int32) (x3 : Int32)  : Wm (EC Z) MX4_addSignal oVw w 0 [(0, Value.ref (aC Z 10)), (1, Value.int x1), (2, Value.int x2), (3, Value.int x3)] [] (f_X4_addSignal x1 x2 x3 w) := by
  unfold f_X4_addSignal
  refine r_aload_n dX4_addSignal_0 0 rfl ?_
  refine r_iload_n dX4_addSignal_1 2 rfl ?_
  refine r_if_le (tgt := 9) dX4_addSignal_2 (by decide) (fun _ => ?_) (fun _ => ?_)
  · refine r_iload_n dX4_addSignal_9 1 rfl ?_
    refine r_iconst (v := 2) dX4_addSignal_10 (by decide) ?_
    refine r_iadd dX4_addSignal_11 ?_
    exact wk_X4_addSignal_b12 Z w x1 x2 x3 (x1 + (2 : Int32))
  · refine r_iload_n dX4_addSignal_5 1 rfl ?_
    refine r_goto (tgt := 12) dX4_addSignal_6 (by decide) ?_
    exact wk_X4_addSignal_b12 Z w x1 x2 x3 x1
theorem m_X4_addSignal (Z : CSp) (w : Wd) (x1 : Int32) (x2 : Int32) (x3 : Int32) : MetM (EC Z) yX4_addSignal cX4_addSignal 4 none { frames := 2, cells := 0, slots := 0, locals := 44 } oVw [Value.ref (aC Z 10), Value.int x1, Value.int x2, Value.int x3] w (f_X4_addSignal x1 x2 x3 w) := MetM_of (plainFor_of_name (by decide)) (Nat.le_of_ble_eq_true rfl) (wk_X4_addSignal Z w x1 x2 x3)
abbrev MX4_darken : Mt := (cX4_darken, RX4, 4, some .int, { frames := 3, cells := 0, slots := 0, locals := 66 })
def f_X4_darken_b20 (x1 : Int32) (x2 : Int32) : Nat → Int32 → Wd → Option (Int32 × Wd)
  | 0, _, _ => none
  | n + 1, x3, w =>
  if (12 : Int32) ≤ x3 then (some (x2, w)) else (if inb ((x1 * (12 : Int32)) + x3) 384 = true then (wput w 13 ((x1 * (12 : Int32)) + x3).toNatClampNeg (0 : Int32) (fun w2 => f_X4_darken_b20 x1 x2 n (x3 + 1) w2)) else none)
set_option maxRecDepth 100000 in
set_option maxHeartbeats 4000000 in
theorem wk_X4_darken_b20 (Z : CSp) (x1 : Int32) (x2 : Int32)  : ∀ (n : Nat) (x3 : Int32) (w : Wd), Wm (EC Z) MX4_darken oIw w 20 [(0, Value.ref (aC Z 10)), (1, Value.int x1), (2, Value.int x2), (3, Value.int x3)] [] (f_X4_darken_b20 x1 x2 n x3 w) := by
  intro n
  induction n with
  | zero =>
    intro x3 w
    exact r_none
  | succ n ih =>
    intro x3 w
    rw [f_X4_darken_b20]
    refine r_iload_n dX4_darken_20 3 rfl ?_
    refine r_bipush (v := 12) dX4_darken_21 (by decide) ?_
    refine r_icmp_ge (tgt := 44) dX4_darken_23 (by decide) (fun _ => ?_) (fun _ => ?_)
    · refine r_iload_n dX4_darken_44 2 rfl ?_
      exact r_iretw rfl dX4_darken_45
    · refine r_aload_n dX4_darken_26 0 rfl ?_
      refine r_get FX4 4 (Nat.le_of_ble_eq_true rfl) kf_X4_25 10 (qC_10 Z w) rfl dX4_darken_27 ?_
      refine r_iload_n dX4_darken_30 1 rfl ?_
      refine r_bipush (v := 12) dX4_darken_31 (by decide) ?_
      refine r_imul dX4_darken_33 ?_
      refine r_iload_n dX4_darken_34 3 rfl ?_
      refine r_iadd dX4_darken_35 ?_
      refine r_iconst (v := 0) dX4_darken_36 (by decide) ?_
      refine r_iast (qC_13 Z w) rfl (uC_13 Z w (0 : Int32)) dX4_darken_37 (fun w2 => ?_)
      refine r_iinc (lv' := [(0, Value.ref (aC Z 10)), (1, Value.int x1), (2, Value.int x2), (3, Value.int (x3 + 1))]) dX4_darken_38 3 rfl (by rfl) (Nat.le_of_ble_eq_true rfl) [1, 2, 3, 0] rfl ?_
      refine r_goto (tgt := 20) dX4_darken_41 (by decide) ?_
      exact ih (x3 + 1) w2
def f_X4_darken (x1 : Int32) (w : Wd) : Option (Int32 × Wd) :=
  (f_X4_isCell x1).bind (fun v1 => if v1 = 0 then (some ((-10002 : Int32), w)) else ((f_X4_countFrom x1 (1 : Int32) w).bind (fun v2 => f_X4_darken_b20 x1 v2 FUEL (0 : Int32) w)))
set_option maxRecDepth 100000 in
set_option maxHeartbeats 4000000 in
theorem wk_X4_darken (Z : CSp) (w : Wd) (x1 : Int32)  : Wm (EC Z) MX4_darken oIw w 0 [(0, Value.ref (aC Z 10)), (1, Value.int x1)] [] (f_X4_darken x1 w) := by
  unfold f_X4_darken
  refine r_iload_n dX4_darken_0 1 rfl ?_
  refine r_callS_I [Value.int x1] cfX4_isCell (m_X4_isCell Z w x1) km_X4_56 ⟨rfl, rfl, (Nat.le_of_ble_eq_true rfl), (Nat.le_of_ble_eq_true rfl)⟩ rfl rfl (Nat.le_of_ble_eq_true rfl) dX4_darken_1 (fun v1 => ?_)
  refine r_if_ne (tgt := 11) dX4_darken_4 (by decide) (fun _ => ?_) (fun _ => ?_)
  · refine r_aload_n dX4_darken_11 0 rfl ?_
    refine r_iload_n dX4_darken_12 1 rfl ?_
    refine r_iconst (v := 1) dX4_darken_13 (by decide) ?_
    refine r_callV_I [Value.int x1, Value.int (1 : Int32)] cfX4_countFrom (m_X4_countFrom Z w x1 (1 : Int32)) km_X4_64 ⟨rfl, rfl, (Nat.le_of_ble_eq_true rfl), (Nat.le_of_ble_eq_true rfl)⟩ rfl rfl 10 (qC_10 Z w) rfl rfl (Nat.le_of_ble_eq_true rfl) dX4_darken_14 (fun v2 => ?_)
    refine r_istore_n (lv' := [(0, Value.ref (aC Z 10)), (1, Value.int x1), (2, Value.int v2)]) dX4_darken_17 (Nat.le_of_ble_eq_true rfl) [1, 2, 0] rfl ?_
    refine r_iconst (v := 0) dX4_darken_18 (by decide) ?_
    refine r_istore_n (lv' := [(0, Value.ref (aC Z 10)), (1, Value.int x1), (2, Value.int v2), (3, Value.int (0 : Int32))]) dX4_darken_19 (Nat.le_of_ble_eq_true rfl) [1, 2, 3, 0] rfl ?_
    exact wk_X4_darken_b20 Z x1 v2 FUEL (0 : Int32) w
  · refine r_sipush (v := -10002) dX4_darken_7 (by decide) ?_
    exact r_iretw rfl dX4_darken_10
theorem m_X4_darken (Z : CSp) (w : Wd) (x1 : Int32) : MetM (EC Z) yX4_darken cX4_darken 4 (some .int) { frames := 3, cells := 0, slots := 0, locals := 66 } oIw [Value.ref (aC Z 10), Value.int x1] w (f_X4_darken x1 w) := MetM_of (plainFor_of_name (by decide)) (Nat.le_of_ble_eq_true rfl) (wk_X4_darken Z w x1)
abbrev MX4_layEchoOfRate : Mt := (cX4_layEchoOfRate, RX4, 8, none, { frames := 3, cells := 0, slots := 0, locals := 67 })
def f_X4_layEchoOfRate_b141 (w : Wd) : Option (Wd) :=
  some w
set_option maxRecDepth 100000 in
set_option maxHeartbeats 4000000 in
theorem wk_X4_layEchoOfRate_b141 (Z : CSp) (w : Wd)   : Wm (EC Z) MX4_layEchoOfRate oVw w 141 [] [] (f_X4_layEchoOfRate_b141 w) := by
  unfold f_X4_layEchoOfRate_b141
  exact r_vret rfl dX4_layEchoOfRate_141
def f_X4_layEchoOfRate (x1 : Int32) (x2 : Int32) (x3 : Int32) (x4 : Int32) (w : Wd) : Option (Wd) :=
  if (1 : Int32) ≤ x4 then (if ¬ x4 = 0 then (jlet (jrem x2 x4) (fun y1 => if nn32 (FP.fmul (1082130432 : UInt32) (FP.i2f y1)) = true then (if nn32 (FP.fdiv (FP.fmul (1082130432 : UInt32) (FP.i2f y1)) (FP.i2f x4)) = true then (jlet (FP.fdiv (FP.fmul (1082130432 : UInt32) (FP.i2f y1)) (FP.i2f x4)) (fun y2 => if 0 ≤ (fcg y2 FP.fconst1) then (if 0 ≤ (fcg y2 FP.fconst2) then (if 0 ≤ (fcg y2 (1077936128 : UInt32)) then (if nn32 (FP.fsub y2 (1077936128 : UInt32)) = true then (if nn32 (FP.fmul (FP.i2f x3) (FP.fsub y2 (1077936128 : UInt32))) = true then (jlet (FP.f2i (FP.fmul (FP.i2f x3) (FP.fsub y2 (1077936128 : UInt32)))) (fun y3 => (f_X4_addSignal x1 y3 (y3 - x3) w).bind (fun w4 => f_X4_layEchoOfRate_b141 w4))) else none) else none) else (if nn32 (FP.fsub y2 FP.fconst2) = true then (if nn32 (FP.fmul (FP.i2f x3) (FP.fsub y2 FP.fconst2)) = true then (jlet (FP.f2i (FP.fmul (FP.i2f x3) (FP.fsub y2 FP.fconst2))) (fun y5 => (f_X4_addSignal x1 (y5 - x3) (-y5) w).bind (fun w6 => f_X4_layEchoOfRate_b141 w6))) else none) else none)) else (if nn32 (FP.fsub y2 FP.fconst1) = true then (if nn32 (FP.fmul (FP.i2f x3) (FP.fsub y2 FP.fconst1)) = true then (jlet (FP.f2i (FP.fmul (FP.i2f x3) (FP.fsub y2 FP.fconst1))) (fun y7 => (f_X4_addSignal x1 (-y7) (x3 - y7) w).bind (fun w8 => f_X4_layEchoOfRate_b141 w8))) else none) else none)) else (if nn32 (FP.fmul (FP.i2f x3) y2) = true then (jlet (FP.f2i (FP.fmul (FP.i2f x3) y2)) (fun y9 => (f_X4_addSignal x1 (x3 - y9) y9 w).bind (fun w10 => f_X4_layEchoOfRate_b141 w10))) else none))) else none) else none)) else none) else (some w)
set_option maxRecDepth 100000 in
set_option maxHeartbeats 4000000 in
theorem wk_X4_layEchoOfRate (Z : CSp) (w : Wd) (x1 : Int32) (x2 : Int32) (x3 : Int32) (x4 : Int32)  : Wm (EC Z) MX4_layEchoOfRate oVw w 0 [(0, Value.ref (aC Z 10)), (1, Value.int x1), (2, Value.int x2), (3, Value.int x3), (4, Value.int x4)] [] (f_X4_layEchoOfRate x1 x2 x3 x4 w) := by
  unfold f_X4_layEchoOfRate
  refine r_iload dX4_layEchoOfRate_0 4 rfl ?_
  refine r_iconst (v := 1) dX4_layEchoOfRate_2 (by decide) ?_
  refine r_icmp_ge (tgt := 7) dX4_layEchoOfRate_3 (by decide) (fun _ => ?_) (fun _ => ?_)
  · refine r_iload_n dX4_layEchoOfRate_7 2 rfl ?_
    refine r_iload dX4_layEchoOfRate_8 4 rfl ?_
    refine r_irem dX4_layEchoOfRate_10 ?_
    refine r_leti (fun y1 => ?_)
    refine r_istore (lv' := [(0, Value.ref (aC Z 10)), (1, Value.int x1), (2, Value.int x2), (3, Value.int x3), (4, Value.int x4), (5, Value.int y1)]) dX4_layEchoOfRate_11 (Nat.le_of_ble_eq_true rfl) [1, 2, 3, 4, 5, 0] rfl ?_
    refine r_ldcf dX4_layEchoOfRate_13 kk_X4_68 ?_
    refine r_iload dX4_layEchoOfRate_15 5 rfl ?_
    refine r_i2f dX4_layEchoOfRate_17 ?_
    refine r_fmul dX4_layEchoOfRate_18 ?_
    refine r_iload dX4_layEchoOfRate_19 4 rfl ?_
    refine r_i2f dX4_layEchoOfRate_21 ?_
    refine r_fdiv dX4_layEchoOfRate_22 ?_
    refine r_letf (fun y2 => ?_)
    refine r_fstore (lv' := [(0, Value.ref (aC Z 10)), (1, Value.int x1), (2, Value.int x2), (3, Value.int x3), (4, Value.int x4), (5, Value.int y1), (6, Value.float y2)]) dX4_layEchoOfRate_23 (Nat.le_of_ble_eq_true rfl) [1, 2, 3, 4, 5, 6, 0] rfl ?_
    refine r_fload dX4_layEchoOfRate_25 6 rfl ?_
    refine r_fconst1 dX4_layEchoOfRate_27 ?_
    refine r_fcmpg dX4_layEchoOfRate_28 ?_
    refine r_if_ge (tgt := 54) dX4_layEchoOfRate_29 (by decide) (fun _ => ?_) (fun _ => ?_)
    · refine r_fload dX4_layEchoOfRate_54 6 rfl ?_
      refine r_fconst2 dX4_layEchoOfRate_56 ?_
      refine r_fcmpg dX4_layEchoOfRate_57 ?_
      refine r_if_ge (tgt := 86) dX4_layEchoOfRate_58 (by decide) (fun _ => ?_) (fun _ => ?_)
      · refine r_fload dX4_layEchoOfRate_86 6 rfl ?_
        refine r_ldcf dX4_layEchoOfRate_88 kk_X4_73 ?_
        refine r_fcmpg dX4_layEchoOfRate_90 ?_
        refine r_if_ge (tgt := 119) dX4_layEchoOfRate_91 (by decide) (fun _ => ?_) (fun _ => ?_)
        · refine r_iload_n dX4_layEchoOfRate_119 3 rfl ?_
          refine r_i2f dX4_layEchoOfRate_120 ?_
          refine r_fload dX4_layEchoOfRate_121 6 rfl ?_
          refine r_ldcf dX4_layEchoOfRate_123 kk_X4_73 ?_
          refine r_fsub dX4_layEchoOfRate_125 ?_
          refine r_fmul dX4_layEchoOfRate_126 ?_
          refine r_f2i dX4_layEchoOfRate_127 ?_
          refine r_leti (fun y3 => ?_)
          refine r_istore (lv' := [(0, Value.ref (aC Z 10)), (1, Value.int x1), (2, Value.int x2), (3, Value.int x3), (4, Value.int x4), (5, Value.int y1), (6, Value.float y2), (7, Value.int y3)]) dX4_layEchoOfRate_128 (Nat.le_of_ble_eq_true rfl) [1, 2, 3, 4, 5, 6, 7, 0] rfl ?_
          refine r_aload_n dX4_layEchoOfRate_130 0 rfl ?_
          refine r_iload_n dX4_layEchoOfRate_131 1 rfl ?_
          refine r_iload dX4_layEchoOfRate_132 7 rfl ?_
          refine r_iload dX4_layEchoOfRate_134 7 rfl ?_
          refine r_iload_n dX4_layEchoOfRate_136 3 rfl ?_
          refine r_isub dX4_layEchoOfRate_137 ?_
          refine r_callV_Vw [Value.int x1, Value.int y3, Value.int (y3 - x3)] cfX4_addSignal (m_X4_addSignal Z w x1 y3 (y3 - x3)) km_X4_69 ⟨rfl, rfl, (Nat.le_of_ble_eq_true rfl), (Nat.le_of_ble_eq_true rfl)⟩ rfl rfl 10 (qC_10 Z w) rfl rfl (Nat.le_of_ble_eq_true rfl) dX4_layEchoOfRate_138 (fun w4 => ?_)
          refine r_lv [] rfl ?_
          exact wk_X4_layEchoOfRate_b141 Z w4
        · refine r_iload_n dX4_layEchoOfRate_94 3 rfl ?_
          refine r_i2f dX4_layEchoOfRate_95 ?_
          refine r_fload dX4_layEchoOfRate_96 6 rfl ?_
          refine r_fconst2 dX4_layEchoOfRate_98 ?_
          refine r_fsub dX4_layEchoOfRate_99 ?_
          refine r_fmul dX4_layEchoOfRate_100 ?_
          refine r_f2i dX4_layEchoOfRate_101 ?_
          refine r_leti (fun y5 => ?_)
          refine r_istore (lv' := [(0, Value.ref (aC Z 10)), (1, Value.int x1), (2, Value.int x2), (3, Value.int x3), (4, Value.int x4), (5, Value.int y1), (6, Value.float y2), (7, Value.int y5)]) dX4_layEchoOfRate_102 (Nat.le_of_ble_eq_true rfl) [1, 2, 3, 4, 5, 6, 7, 0] rfl ?_
          refine r_aload_n dX4_layEchoOfRate_104 0 rfl ?_
          refine r_iload_n dX4_layEchoOfRate_105 1 rfl ?_
          refine r_iload dX4_layEchoOfRate_106 7 rfl ?_
          refine r_iload_n dX4_layEchoOfRate_108 3 rfl ?_
          refine r_isub dX4_layEchoOfRate_109 ?_
          refine r_iload dX4_layEchoOfRate_110 7 rfl ?_
          refine r_ineg dX4_layEchoOfRate_112 ?_
          refine r_callV_Vw [Value.int x1, Value.int (y5 - x3), Value.int (-y5)] cfX4_addSignal (m_X4_addSignal Z w x1 (y5 - x3) (-y5)) km_X4_69 ⟨rfl, rfl, (Nat.le_of_ble_eq_true rfl), (Nat.le_of_ble_eq_true rfl)⟩ rfl rfl 10 (qC_10 Z w) rfl rfl (Nat.le_of_ble_eq_true rfl) dX4_layEchoOfRate_113 (fun w6 => ?_)
          refine r_goto (tgt := 141) dX4_layEchoOfRate_116 (by decide) ?_
          refine r_lv [] rfl ?_
          exact wk_X4_layEchoOfRate_b141 Z w6
      · refine r_iload_n dX4_layEchoOfRate_61 3 rfl ?_
        refine r_i2f dX4_layEchoOfRate_62 ?_
        refine r_fload dX4_layEchoOfRate_63 6 rfl ?_
        refine r_fconst1 dX4_layEchoOfRate_65 ?_
        refine r_fsub dX4_layEchoOfRate_66 ?_
        refine r_fmul dX4_layEchoOfRate_67 ?_
        refine r_f2i dX4_layEchoOfRate_68 ?_
        refine r_leti (fun y7 => ?_)
        refine r_istore (lv' := [(0, Value.ref (aC Z 10)), (1, Value.int x1), (2, Value.int x2), (3, Value.int x3), (4, Value.int x4), (5, Value.int y1), (6, Value.float y2), (7, Value.int y7)]) dX4_layEchoOfRate_69 (Nat.le_of_ble_eq_true rfl) [1, 2, 3, 4, 5, 6, 7, 0] rfl ?_
        refine r_aload_n dX4_layEchoOfRate_71 0 rfl ?_
        refine r_iload_n dX4_layEchoOfRate_72 1 rfl ?_
        refine r_iload dX4_layEchoOfRate_73 7 rfl ?_
        refine r_ineg dX4_layEchoOfRate_75 ?_
        refine r_iload_n dX4_layEchoOfRate_76 3 rfl ?_
        refine r_iload dX4_layEchoOfRate_77 7 rfl ?_
        refine r_isub dX4_layEchoOfRate_79 ?_
        refine r_callV_Vw [Value.int x1, Value.int (-y7), Value.int (x3 - y7)] cfX4_addSignal (m_X4_addSignal Z w x1 (-y7) (x3 - y7)) km_X4_69 ⟨rfl, rfl, (Nat.le_of_ble_eq_true rfl), (Nat.le_of_ble_eq_true rfl)⟩ rfl rfl 10 (qC_10 Z w) rfl rfl (Nat.le_of_ble_eq_true rfl) dX4_layEchoOfRate_80 (fun w8 => ?_)
        refine r_goto (tgt := 141) dX4_layEchoOfRate_83 (by decide) ?_
        refine r_lv [] rfl ?_
        exact wk_X4_layEchoOfRate_b141 Z w8
    · refine r_iload_n dX4_layEchoOfRate_32 3 rfl ?_
      refine r_i2f dX4_layEchoOfRate_33 ?_
      refine r_fload dX4_layEchoOfRate_34 6 rfl ?_
      refine r_fmul dX4_layEchoOfRate_36 ?_
      refine r_f2i dX4_layEchoOfRate_37 ?_
      refine r_leti (fun y9 => ?_)
      refine r_istore (lv' := [(0, Value.ref (aC Z 10)), (1, Value.int x1), (2, Value.int x2), (3, Value.int x3), (4, Value.int x4), (5, Value.int y1), (6, Value.float y2), (7, Value.int y9)]) dX4_layEchoOfRate_38 (Nat.le_of_ble_eq_true rfl) [1, 2, 3, 4, 5, 6, 7, 0] rfl ?_
      refine r_aload_n dX4_layEchoOfRate_40 0 rfl ?_
      refine r_iload_n dX4_layEchoOfRate_41 1 rfl ?_
      refine r_iload_n dX4_layEchoOfRate_42 3 rfl ?_
      refine r_iload dX4_layEchoOfRate_43 7 rfl ?_
      refine r_isub dX4_layEchoOfRate_45 ?_
      refine r_iload dX4_layEchoOfRate_46 7 rfl ?_
      refine r_callV_Vw [Value.int x1, Value.int (x3 - y9), Value.int y9] cfX4_addSignal (m_X4_addSignal Z w x1 (x3 - y9) y9) km_X4_69 ⟨rfl, rfl, (Nat.le_of_ble_eq_true rfl), (Nat.le_of_ble_eq_true rfl)⟩ rfl rfl 10 (qC_10 Z w) rfl rfl (Nat.le_of_ble_eq_true rfl) dX4_layEchoOfRate_48 (fun w10 => ?_)
      refine r_goto (tgt := 141) dX4_layEchoOfRate_51 (by decide) ?_
      refine r_lv [] rfl ?_
      exact wk_X4_layEchoOfRate_b141 Z w10
  · exact r_vret rfl dX4_layEchoOfRate_6
theorem m_X4_layEchoOfRate (Z : CSp) (w : Wd) (x1 : Int32) (x2 : Int32) (x3 : Int32) (x4 : Int32) : MetM (EC Z) yX4_layEchoOfRate cX4_layEchoOfRate 8 none { frames := 3, cells := 0, slots := 0, locals := 67 } oVw [Value.ref (aC Z 10), Value.int x1, Value.int x2, Value.int x3, Value.int x4] w (f_X4_layEchoOfRate x1 x2 x3 x4 w) := MetM_of (plainFor_of_name (by decide)) (Nat.le_of_ble_eq_true rfl) (wk_X4_layEchoOfRate Z w x1 x2 x3 x4)
abbrev MX4_layEcho : Mt := (cX4_layEcho, RX4, 5, some .int, { frames := 4, cells := 0, slots := 0, locals := 94 })
def f_X4_layEcho_b36 (x1 : Int32) (x2 : Int32) (x3 : Int32) : Nat → Int32 → Wd → Option (Int32 × Wd)
  | 0, _, _ => none
  | n + 1, x4, w =>
  if (3 : Int32) ≤ x4 then ((f_X4_countFrom x1 (4095 : Int32) w).bind (fun v3 => some (v3, w))) else (if inb x4 3 = true then ((f_X4_layEchoOfRate ((x1 * (12 : Int32)) + (x4 * (4 : Int32))) x2 x3 (w.1 11 (x4).toNatClampNeg) w).bind (fun w4 => f_X4_layEcho_b36 x1 x2 x3 n (x4 + 1) w4)) else none)
set_option maxRecDepth 100000 in
set_option maxHeartbeats 4000000 in
theorem wk_X4_layEcho_b36 (Z : CSp) (x1 : Int32) (x2 : Int32) (x3 : Int32)  : ∀ (n : Nat) (x4 : Int32) (w : Wd), Wm (EC Z) MX4_layEcho oIw w 36 [(0, Value.ref (aC Z 10)), (1, Value.int x1), (2, Value.int x2), (3, Value.int x3), (4, Value.int x4)] [] (f_X4_layEcho_b36 x1 x2 x3 n x4 w) := by
  intro n
  induction n with
  | zero =>
    intro x4 w
    exact r_none
  | succ n ih =>
    intro x4 w
    rw [f_X4_layEcho_b36]
    refine r_iload dX4_layEcho_36 4 rfl ?_
    refine r_iconst (v := 3) dX4_layEcho_38 (by decide) ?_
    refine r_icmp_ge (tgt := 70) dX4_layEcho_39 (by decide) (fun _ => ?_) (fun _ => ?_)
    · refine r_aload_n dX4_layEcho_70 0 rfl ?_
      refine r_iload_n dX4_layEcho_71 1 rfl ?_
      refine r_sipush (v := 4095) dX4_layEcho_72 (by decide) ?_
      refine r_callV_I [Value.int x1, Value.int (4095 : Int32)] cfX4_countFrom (m_X4_countFrom Z w x1 (4095 : Int32)) km_X4_64 ⟨rfl, rfl, (Nat.le_of_ble_eq_true rfl), (Nat.le_of_ble_eq_true rfl)⟩ rfl rfl 10 (qC_10 Z w) rfl rfl (Nat.le_of_ble_eq_true rfl) dX4_layEcho_75 (fun v3 => ?_)
      exact r_iretw rfl dX4_layEcho_78
    · refine r_aload_n dX4_layEcho_42 0 rfl ?_
      refine r_iload_n dX4_layEcho_43 1 rfl ?_
      refine r_bipush (v := 12) dX4_layEcho_44 (by decide) ?_
      refine r_imul dX4_layEcho_46 ?_
      refine r_iload dX4_layEcho_47 4 rfl ?_
      refine r_iconst (v := 4) dX4_layEcho_49 (by decide) ?_
      refine r_imul dX4_layEcho_50 ?_
      refine r_iadd dX4_layEcho_51 ?_
      refine r_iload_n dX4_layEcho_52 2 rfl ?_
      refine r_iload_n dX4_layEcho_53 3 rfl ?_
      refine r_aload_n dX4_layEcho_54 0 rfl ?_
      refine r_get FX4 2 (Nat.le_of_ble_eq_true rfl) kf_X4_18 10 (qC_10 Z w) rfl dX4_layEcho_55 ?_
      refine r_iload dX4_layEcho_58 4 rfl ?_
      refine r_iald 11 (qC_11 Z w) rfl dX4_layEcho_60 ?_
      refine r_callV_Vw [Value.int ((x1 * (12 : Int32)) + (x4 * (4 : Int32))), Value.int x2, Value.int x3, Value.int (w.1 11 (x4).toNatClampNeg)] cfX4_layEchoOfRate (m_X4_layEchoOfRate Z w ((x1 * (12 : Int32)) + (x4 * (4 : Int32))) x2 x3 (w.1 11 (x4).toNatClampNeg)) km_X4_60 ⟨rfl, rfl, (Nat.le_of_ble_eq_true rfl), (Nat.le_of_ble_eq_true rfl)⟩ rfl rfl 10 (qC_10 Z w) rfl rfl (Nat.le_of_ble_eq_true rfl) dX4_layEcho_61 (fun w4 => ?_)
      refine r_iinc (lv' := [(0, Value.ref (aC Z 10)), (1, Value.int x1), (2, Value.int x2), (3, Value.int x3), (4, Value.int (x4 + 1))]) dX4_layEcho_64 4 rfl (by rfl) (Nat.le_of_ble_eq_true rfl) [1, 2, 3, 4, 0] rfl ?_
      refine r_goto (tgt := 36) dX4_layEcho_67 (by decide) ?_
      exact ih (x4 + 1) w4
def f_X4_layEcho_b29 (w : Wd) : Option (Int32 × Wd) :=
  some ((-10002 : Int32), w)
set_option maxRecDepth 100000 in
set_option maxHeartbeats 4000000 in
theorem wk_X4_layEcho_b29 (Z : CSp) (w : Wd)   : Wm (EC Z) MX4_layEcho oIw w 29 [] [] (f_X4_layEcho_b29 w) := by
  unfold f_X4_layEcho_b29
  refine r_sipush (v := -10002) dX4_layEcho_29 (by decide) ?_
  exact r_iretw rfl dX4_layEcho_32
def f_X4_layEcho (x1 : Int32) (x2 : Int32) (x3 : Int32) (w : Wd) : Option (Int32 × Wd) :=
  (f_X4_isCell x1).bind (fun v1 => if v1 = 0 then (f_X4_layEcho_b29 w) else ((f_X5_within x2 (0 : Int32) (9999 : Int32)).bind (fun v2 => if v2 = 0 then (f_X4_layEcho_b29 w) else ((f_X5_within x3 (1 : Int32) (1000 : Int32)).bind (fun v3 => if v3 = 0 then (f_X4_layEcho_b29 w) else (f_X4_layEcho_b36 x1 x2 x3 FUEL (0 : Int32) w))))))
set_option maxRecDepth 100000 in
set_option maxHeartbeats 4000000 in
theorem wk_X4_layEcho (Z : CSp) (w : Wd) (x1 : Int32) (x2 : Int32) (x3 : Int32)  : Wm (EC Z) MX4_layEcho oIw w 0 [(0, Value.ref (aC Z 10)), (1, Value.int x1), (2, Value.int x2), (3, Value.int x3)] [] (f_X4_layEcho x1 x2 x3 w) := by
  unfold f_X4_layEcho
  refine r_iload_n dX4_layEcho_0 1 rfl ?_
  refine r_callS_I [Value.int x1] cfX4_isCell (m_X4_isCell Z w x1) km_X4_56 ⟨rfl, rfl, (Nat.le_of_ble_eq_true rfl), (Nat.le_of_ble_eq_true rfl)⟩ rfl rfl (Nat.le_of_ble_eq_true rfl) dX4_layEcho_1 (fun v1 => ?_)
  refine r_if_eq (tgt := 29) dX4_layEcho_4 (by decide) (fun _ => ?_) (fun _ => ?_)
  · refine r_lv [] rfl ?_
    exact wk_X4_layEcho_b29 Z w
  · refine r_iload_n dX4_layEcho_7 2 rfl ?_
    refine r_iconst (v := 0) dX4_layEcho_8 (by decide) ?_
    refine r_sipush (v := 9999) dX4_layEcho_9 (by decide) ?_
    refine r_callSN_I [Value.int x2, Value.int (0 : Int32), Value.int (9999 : Int32)] cfX5_within (m_X5_within Z w x2 (0 : Int32) (9999 : Int32)) (n_X4_40 Z) ⟨rfl, rfl, (Nat.le_of_ble_eq_true rfl), (Nat.le_of_ble_eq_true rfl)⟩ rfl rfl (Nat.le_of_ble_eq_true rfl) dX4_layEcho_12 (fun v2 => ?_)
    refine r_if_eq (tgt := 29) dX4_layEcho_15 (by decide) (fun _ => ?_) (fun _ => ?_)
    · refine r_lv [] rfl ?_
      exact wk_X4_layEcho_b29 Z w
    · refine r_iload_n dX4_layEcho_18 3 rfl ?_
      refine r_iconst (v := 1) dX4_layEcho_19 (by decide) ?_
      refine r_sipush (v := 1000) dX4_layEcho_20 (by decide) ?_
      refine r_callSN_I [Value.int x3, Value.int (1 : Int32), Value.int (1000 : Int32)] cfX5_within (m_X5_within Z w x3 (1 : Int32) (1000 : Int32)) (n_X4_40 Z) ⟨rfl, rfl, (Nat.le_of_ble_eq_true rfl), (Nat.le_of_ble_eq_true rfl)⟩ rfl rfl (Nat.le_of_ble_eq_true rfl) dX4_layEcho_23 (fun v3 => ?_)
      refine r_if_ne (tgt := 33) dX4_layEcho_26 (by decide) (fun _ => ?_) (fun _ => ?_)
      · refine r_iconst (v := 0) dX4_layEcho_33 (by decide) ?_
        refine r_istore (lv' := [(0, Value.ref (aC Z 10)), (1, Value.int x1), (2, Value.int x2), (3, Value.int x3), (4, Value.int (0 : Int32))]) dX4_layEcho_34 (Nat.le_of_ble_eq_true rfl) [1, 2, 3, 4, 0] rfl ?_
        exact wk_X4_layEcho_b36 Z x1 x2 x3 FUEL (0 : Int32) w
      · refine r_lv [] rfl ?_
        exact wk_X4_layEcho_b29 Z w
theorem m_X4_layEcho (Z : CSp) (w : Wd) (x1 : Int32) (x2 : Int32) (x3 : Int32) : MetM (EC Z) yX4_layEcho cX4_layEcho 5 (some .int) { frames := 4, cells := 0, slots := 0, locals := 94 } oIw [Value.ref (aC Z 10), Value.int x1, Value.int x2, Value.int x3] w (f_X4_layEcho x1 x2 x3 w) := MetM_of (plainFor_of_name (by decide)) (Nat.le_of_ble_eq_true rfl) (wk_X4_layEcho Z w x1 x2 x3)
abbrev MX4_layGrid : Mt := (cX4_layGrid, RX4, 4, some .int, { frames := 1, cells := 0, slots := 0, locals := 23 })
def f_X4_layGrid_b18 (w : Wd) : Option (Int32 × Wd) :=
  some ((-10002 : Int32), w)
set_option maxRecDepth 100000 in
set_option maxHeartbeats 4000000 in
theorem wk_X4_layGrid_b18 (Z : CSp) (w : Wd)   : Wm (EC Z) MX4_layGrid oIw w 18 [] [] (f_X4_layGrid_b18 w) := by
  unfold f_X4_layGrid_b18
  refine r_sipush (v := -10002) dX4_layGrid_18 (by decide) ?_
  exact r_iretw rfl dX4_layGrid_21
def f_X4_layGrid (x1 : Int32) (x2 : Int32) (w : Wd) : Option (Int32 × Wd) :=
  (f_X5_within x1 (1 : Int32) (4 : Int32)).bind (fun v1 => if v1 = 0 then (f_X4_layGrid_b18 w) else ((f_X5_within x2 (1 : Int32) (4 : Int32)).bind (fun v2 => if v2 = 0 then (f_X4_layGrid_b18 w) else (jlet ((w.1 10 0) * (w.1 10 1)) (fun y3 => wput w 10 0 x1 (fun w4 => wput w4 10 1 x2 (fun w5 => (f_J7_fill_53178_13 (0 : Int32) w5).bind (fun w6 => some (y3, w6)))))))))
set_option maxRecDepth 100000 in
set_option maxHeartbeats 4000000 in
theorem wk_X4_layGrid (Z : CSp) (w : Wd) (x1 : Int32) (x2 : Int32)  : Wm (EC Z) MX4_layGrid oIw w 0 [(0, Value.ref (aC Z 10)), (1, Value.int x1), (2, Value.int x2)] [] (f_X4_layGrid x1 x2 w) := by
  unfold f_X4_layGrid
  refine r_iload_n dX4_layGrid_0 1 rfl ?_
  refine r_iconst (v := 1) dX4_layGrid_1 (by decide) ?_
  refine r_iconst (v := 4) dX4_layGrid_2 (by decide) ?_
  refine r_callSN_I [Value.int x1, Value.int (1 : Int32), Value.int (4 : Int32)] cfX5_within (m_X5_within Z w x1 (1 : Int32) (4 : Int32)) (n_X4_40 Z) ⟨rfl, rfl, (Nat.le_of_ble_eq_true rfl), (Nat.le_of_ble_eq_true rfl)⟩ rfl rfl (Nat.le_of_ble_eq_true rfl) dX4_layGrid_3 (fun v1 => ?_)
  refine r_if_eq (tgt := 18) dX4_layGrid_6 (by decide) (fun _ => ?_) (fun _ => ?_)
  · refine r_lv [] rfl ?_
    exact wk_X4_layGrid_b18 Z w
  · refine r_iload_n dX4_layGrid_9 2 rfl ?_
    refine r_iconst (v := 1) dX4_layGrid_10 (by decide) ?_
    refine r_iconst (v := 4) dX4_layGrid_11 (by decide) ?_
    refine r_callSN_I [Value.int x2, Value.int (1 : Int32), Value.int (4 : Int32)] cfX5_within (m_X5_within Z w x2 (1 : Int32) (4 : Int32)) (n_X4_40 Z) ⟨rfl, rfl, (Nat.le_of_ble_eq_true rfl), (Nat.le_of_ble_eq_true rfl)⟩ rfl rfl (Nat.le_of_ble_eq_true rfl) dX4_layGrid_12 (fun v2 => ?_)
    refine r_if_ne (tgt := 22) dX4_layGrid_15 (by decide) (fun _ => ?_) (fun _ => ?_)
    · refine r_aload_n dX4_layGrid_22 0 rfl ?_
      refine r_get FX4 0 (Nat.le_of_ble_eq_true rfl) kf_X4_9 10 (qC_10 Z w) rfl dX4_layGrid_23 ?_
      refine r_aload_n dX4_layGrid_26 0 rfl ?_
      refine r_get FX4 1 (Nat.le_of_ble_eq_true rfl) kf_X4_15 10 (qC_10 Z w) rfl dX4_layGrid_27 ?_
      refine r_imul dX4_layGrid_30 ?_
      refine r_leti (fun y3 => ?_)
      refine r_istore_n (lv' := [(0, Value.ref (aC Z 10)), (1, Value.int x1), (2, Value.int x2), (3, Value.int y3)]) dX4_layGrid_31 (Nat.le_of_ble_eq_true rfl) [1, 2, 3, 0] rfl ?_
      refine r_aload_n dX4_layGrid_32 0 rfl ?_
      refine r_iload_n dX4_layGrid_33 1 rfl ?_
      refine r_puti FX4 tyX4_ok nmX4 kf_X4_9 (qC_10 Z w) ⟨(Nat.le_of_ble_eq_true rfl), (Nat.le_of_ble_eq_true rfl), rfl⟩ (by decide) (uC_10_0 Z w x1) dX4_layGrid_34 (fun w4 => ?_)
      refine r_aload_n dX4_layGrid_37 0 rfl ?_
      refine r_iload_n dX4_layGrid_38 2 rfl ?_
      refine r_puti FX4 tyX4_ok nmX4 kf_X4_15 (qC_10 Z w4) ⟨(Nat.le_of_ble_eq_true rfl), (Nat.le_of_ble_eq_true rfl), rfl⟩ (by decide) (uC_10_1 Z w4 x2) dX4_layGrid_39 (fun w5 => ?_)
      refine r_aload_n dX4_layGrid_42 0 rfl ?_
      refine r_get FX4 4 (Nat.le_of_ble_eq_true rfl) kf_X4_25 10 (qC_10 Z w5) rfl dX4_layGrid_43 ?_
      refine r_iconst (v := 0) dX4_layGrid_46 (by decide) ?_
      refine r_callS_Vw [Value.ref (aC Z 13), Value.int (0 : Int32)] cfJ7_fill_53178 (m_J7_fill_53178_13 Z w5 (0 : Int32)) km_X4_44 ⟨rfl, rfl, (Nat.le_of_ble_eq_true rfl), (Nat.le_of_ble_eq_true rfl)⟩ rfl rfl (Nat.le_of_ble_eq_true rfl) dX4_layGrid_47 (fun w6 => ?_)
      refine r_iload_n dX4_layGrid_50 3 rfl ?_
      exact r_iretw rfl dX4_layGrid_51
    · refine r_lv [] rfl ?_
      exact wk_X4_layGrid_b18 Z w
theorem m_X4_layGrid (Z : CSp) (w : Wd) (x1 : Int32) (x2 : Int32) : MetM (EC Z) yX4_layGrid cX4_layGrid 4 (some .int) { frames := 1, cells := 0, slots := 0, locals := 23 } oIw [Value.ref (aC Z 10), Value.int x1, Value.int x2] w (f_X4_layGrid x1 x2 w) := MetM_of (plainFor_of_name (by decide)) (Nat.le_of_ble_eq_true rfl) (wk_X4_layGrid Z w x1 x2)
abbrev MX4_putSample : Mt := (cX4_putSample, RX4, 7, some .int, { frames := 2, cells := 0, slots := 0, locals := 42 })
def f_X4_putSample_b37 (w : Wd) : Option (Int32 × Wd) :=
  some ((-10002 : Int32), w)
set_option maxRecDepth 100000 in
set_option maxHeartbeats 4000000 in
theorem wk_X4_putSample_b37 (Z : CSp) (w : Wd)   : Wm (EC Z) MX4_putSample oIw w 37 [] [] (f_X4_putSample_b37 w) := by
  unfold f_X4_putSample_b37
  refine r_sipush (v := -10002) dX4_putSample_37 (by decide) ?_
  exact r_iretw rfl dX4_putSample_40
def f_X4_putSample (x1 : Int32) (x2 : Int32) (x3 : Int32) (x4 : Int32) (w : Wd) : Option (Int32 × Wd) :=
  (f_X4_isCell x1).bind (fun v1 => if v1 = 0 then (f_X4_putSample_b37 w) else ((f_X5_within x2 (0 : Int32) (2 : Int32)).bind (fun v2 => if v2 = 0 then (f_X4_putSample_b37 w) else ((f_X5_within x3 (0 : Int32) (3 : Int32)).bind (fun v3 => if v3 = 0 then (f_X4_putSample_b37 w) else ((f_X5_within x4 (0 : Int32) (4095 : Int32)).bind (fun v4 => if v4 = 0 then (f_X4_putSample_b37 w) else (jlet (((x1 * (12 : Int32)) + (x2 * (4 : Int32))) + x3) (fun y5 => if inb y5 384 = true then (jlet (w.1 13 (y5).toNatClampNeg) (fun y6 => if inb y5 384 = true then (wput w 13 (y5).toNatClampNeg x4 (fun w7 => some (y6, w7))) else none)) else none)))))))))
set_option maxRecDepth 100000 in
set_option maxHeartbeats 4000000 in
theorem wk_X4_putSample (Z : CSp) (w : Wd) (x1 : Int32) (x2 : Int32) (x3 : Int32) (x4 : Int32)  : Wm (EC Z) MX4_putSample oIw w 0 [(0, Value.ref (aC Z 10)), (1, Value.int x1), (2, Value.int x2), (3, Value.int x3), (4, Value.int x4)] [] (f_X4_putSample x1 x2 x3 x4 w) := by
  unfold f_X4_putSample
  refine r_iload_n dX4_putSample_0 1 rfl ?_
  refine r_callS_I [Value.int x1] cfX4_isCell (m_X4_isCell Z w x1) km_X4_56 ⟨rfl, rfl, (Nat.le_of_ble_eq_true rfl), (Nat.le_of_ble_eq_true rfl)⟩ rfl rfl (Nat.le_of_ble_eq_true rfl) dX4_putSample_1 (fun v1 => ?_)
  refine r_if_eq (tgt := 37) dX4_putSample_4 (by decide) (fun _ => ?_) (fun _ => ?_)
  · refine r_lv [] rfl ?_
    exact wk_X4_putSample_b37 Z w
  · refine r_iload_n dX4_putSample_7 2 rfl ?_
    refine r_iconst (v := 0) dX4_putSample_8 (by decide) ?_
    refine r_iconst (v := 2) dX4_putSample_9 (by decide) ?_
    refine r_callSN_I [Value.int x2, Value.int (0 : Int32), Value.int (2 : Int32)] cfX5_within (m_X5_within Z w x2 (0 : Int32) (2 : Int32)) (n_X4_40 Z) ⟨rfl, rfl, (Nat.le_of_ble_eq_true rfl), (Nat.le_of_ble_eq_true rfl)⟩ rfl rfl (Nat.le_of_ble_eq_true rfl) dX4_putSample_10 (fun v2 => ?_)
    refine r_if_eq (tgt := 37) dX4_putSample_13 (by decide) (fun _ => ?_) (fun _ => ?_)
    · refine r_lv [] rfl ?_
      exact wk_X4_putSample_b37 Z w
    · refine r_iload_n dX4_putSample_16 3 rfl ?_
      refine r_iconst (v := 0) dX4_putSample_17 (by decide) ?_
      refine r_iconst (v := 3) dX4_putSample_18 (by decide) ?_
      refine r_callSN_I [Value.int x3, Value.int (0 : Int32), Value.int (3 : Int32)] cfX5_within (m_X5_within Z w x3 (0 : Int32) (3 : Int32)) (n_X4_40 Z) ⟨rfl, rfl, (Nat.le_of_ble_eq_true rfl), (Nat.le_of_ble_eq_true rfl)⟩ rfl rfl (Nat.le_of_ble_eq_true rfl) dX4_putSample_19 (fun v3 => ?_)
      refine r_if_eq (tgt := 37) dX4_putSample_22 (by decide) (fun _ => ?_) (fun _ => ?_)
      · refine r_lv [] rfl ?_
        exact wk_X4_putSample_b37 Z w
      · refine r_iload dX4_putSample_25 4 rfl ?_
        refine r_iconst (v := 0) dX4_putSample_27 (by decide) ?_
        refine r_sipush (v := 4095) dX4_putSample_28 (by decide) ?_
        refine r_callSN_I [Value.int x4, Value.int (0 : Int32), Value.int (4095 : Int32)] cfX5_within (m_X5_within Z w x4 (0 : Int32) (4095 : Int32)) (n_X4_40 Z) ⟨rfl, rfl, (Nat.le_of_ble_eq_true rfl), (Nat.le_of_ble_eq_true rfl)⟩ rfl rfl (Nat.le_of_ble_eq_true rfl) dX4_putSample_31 (fun v4 => ?_)
        refine r_if_ne (tgt := 41) dX4_putSample_34 (by decide) (fun _ => ?_) (fun _ => ?_)
        · refine r_iload_n dX4_putSample_41 1 rfl ?_
          refine r_bipush (v := 12) dX4_putSample_42 (by decide) ?_
          refine r_imul dX4_putSample_44 ?_
          refine r_iload_n dX4_putSample_45 2 rfl ?_
          refine r_iconst (v := 4) dX4_putSample_46 (by decide) ?_
          refine r_imul dX4_putSample_47 ?_
          refine r_iadd dX4_putSample_48 ?_
          refine r_iload_n dX4_putSample_49 3 rfl ?_
          refine r_iadd dX4_putSample_50 ?_
          refine r_leti (fun y5 => ?_)
          refine r_istore (lv' := [(0, Value.ref (aC Z 10)), (1, Value.int x1), (2, Value.int x2), (3, Value.int x3), (4, Value.int x4), (5, Value.int y5)]) dX4_putSample_51 (Nat.le_of_ble_eq_true rfl) [1, 2, 3, 4, 5, 0] rfl ?_
          refine r_aload_n dX4_putSample_53 0 rfl ?_
          refine r_get FX4 4 (Nat.le_of_ble_eq_true rfl) kf_X4_25 10 (qC_10 Z w) rfl dX4_putSample_54 ?_
          refine r_iload dX4_putSample_57 5 rfl ?_
          refine r_iald 13 (qC_13 Z w) rfl dX4_putSample_59 ?_
          refine r_leti (fun y6 => ?_)
          refine r_istore (lv' := [(0, Value.ref (aC Z 10)), (1, Value.int x1), (2, Value.int x2), (3, Value.int x3), (4, Value.int x4), (5, Value.int y5), (6, Value.int y6)]) dX4_putSample_60 (Nat.le_of_ble_eq_true rfl) [1, 2, 3, 4, 5, 6, 0] rfl ?_
          refine r_aload_n dX4_putSample_62 0 rfl ?_
          refine r_get FX4 4 (Nat.le_of_ble_eq_true rfl) kf_X4_25 10 (qC_10 Z w) rfl dX4_putSample_63 ?_
          refine r_iload dX4_putSample_66 5 rfl ?_
          refine r_iload dX4_putSample_68 4 rfl ?_
          refine r_iast (qC_13 Z w) rfl (uC_13 Z w x4) dX4_putSample_70 (fun w7 => ?_)
          refine r_iload dX4_putSample_71 6 rfl ?_
          exact r_iretw rfl dX4_putSample_73
        · refine r_lv [] rfl ?_
          exact wk_X4_putSample_b37 Z w
theorem m_X4_putSample (Z : CSp) (w : Wd) (x1 : Int32) (x2 : Int32) (x3 : Int32) (x4 : Int32) : MetM (EC Z) yX4_putSample cX4_putSample 7 (some .int) { frames := 2, cells := 0, slots := 0, locals := 42 } oIw [Value.ref (aC Z 10), Value.int x1, Value.int x2, Value.int x3, Value.int x4] w (f_X4_putSample x1 x2 x3 x4 w) := MetM_of (plainFor_of_name (by decide)) (Nat.le_of_ble_eq_true rfl) (wk_X4_putSample Z w x1 x2 x3 x4)
abbrev MX4_putSetting : Mt := (cX4_putSetting, RX4, 4, some .int, { frames := 1, cells := 0, slots := 0, locals := 22 })
def f_X4_putSetting_b26 (w : Wd) : Option (Int32 × Wd) :=
  some ((-10002 : Int32), w)
set_option maxRecDepth 100000 in
set_option maxHeartbeats 4000000 in
theorem wk_X4_putSetting_b26 (Z : CSp) (w : Wd)   : Wm (EC Z) MX4_putSetting oIw w 26 [] [] (f_X4_putSetting_b26 w) := by
  unfold f_X4_putSetting_b26
  refine r_sipush (v := -10002) dX4_putSetting_26 (by decide) ?_
  exact r_iretw rfl dX4_putSetting_29
def f_X4_putSetting (x1 : Int32) (x2 : Int32) (w : Wd) : Option (Int32 × Wd) :=
  (f_X5_within x1 (0 : Int32) (5 : Int32)).bind (fun v1 => if v1 = 0 then (f_X4_putSetting_b26 w) else (if inb x1 6 = true then (if inb x1 6 = true then ((f_X5_within x2 (fLeast (x1).toNatClampNeg) (fMost (x1).toNatClampNeg)).bind (fun v2 => if v2 = 0 then (f_X4_putSetting_b26 w) else (if inb x1 6 = true then (jlet (w.1 12 (x1).toNatClampNeg) (fun y3 => if inb x1 6 = true then (wput w 12 (x1).toNatClampNeg x2 (fun w4 => some (y3, w4))) else none)) else none))) else none) else none))
set_option maxRecDepth 100000 in
set_option maxHeartbeats 4000000 in
theorem wk_X4_putSetting (Z : CSp) (w : Wd) (x1 : Int32) (x2 : Int32)  : Wm (EC Z) MX4_putSetting oIw w 0 [(0, Value.ref (aC Z 10)), (1, Value.int x1), (2, Value.int x2)] [] (f_X4_putSetting x1 x2 w) := by
  unfold f_X4_putSetting
  refine r_iload_n dX4_putSetting_0 1 rfl ?_
  refine r_iconst (v := 0) dX4_putSetting_1 (by decide) ?_
  refine r_iconst (v := 5) dX4_putSetting_2 (by decide) ?_
  refine r_callSN_I [Value.int x1, Value.int (0 : Int32), Value.int (5 : Int32)] cfX5_within (m_X5_within Z w x1 (0 : Int32) (5 : Int32)) (n_X4_40 Z) ⟨rfl, rfl, (Nat.le_of_ble_eq_true rfl), (Nat.le_of_ble_eq_true rfl)⟩ rfl rfl (Nat.le_of_ble_eq_true rfl) dX4_putSetting_3 (fun v1 => ?_)
  refine r_if_eq (tgt := 26) dX4_putSetting_6 (by decide) (fun _ => ?_) (fun _ => ?_)
  · refine r_lv [] rfl ?_
    exact wk_X4_putSetting_b26 Z w
  · refine r_iload_n dX4_putSetting_9 2 rfl ?_
    refine r_getsN (s_least Z) (n_X4_50 Z) dX4_putSetting_10 ?_
    refine r_iload_n dX4_putSetting_13 1 rfl ?_
    refine r_sald (s_least Z) dX4_putSetting_14 ?_
    refine r_getsN (s_most Z) (n_X4_53 Z) dX4_putSetting_15 ?_
    refine r_iload_n dX4_putSetting_18 1 rfl ?_
    refine r_sald (s_most Z) dX4_putSetting_19 ?_
    refine r_callSN_I [Value.int x2, Value.int (fLeast (x1).toNatClampNeg), Value.int (fMost (x1).toNatClampNeg)] cfX5_within (m_X5_within Z w x2 (fLeast (x1).toNatClampNeg) (fMost (x1).toNatClampNeg)) (n_X4_40 Z) ⟨rfl, rfl, (Nat.le_of_ble_eq_true rfl), (Nat.le_of_ble_eq_true rfl)⟩ rfl rfl (Nat.le_of_ble_eq_true rfl) dX4_putSetting_20 (fun v2 => ?_)
    refine r_if_ne (tgt := 30) dX4_putSetting_23 (by decide) (fun _ => ?_) (fun _ => ?_)
    · refine r_aload_n dX4_putSetting_30 0 rfl ?_
      refine r_get FX4 3 (Nat.le_of_ble_eq_true rfl) kf_X4_22 10 (qC_10 Z w) rfl dX4_putSetting_31 ?_
      refine r_iload_n dX4_putSetting_34 1 rfl ?_
      refine r_iald 12 (qC_12 Z w) rfl dX4_putSetting_35 ?_
      refine r_leti (fun y3 => ?_)
      refine r_istore_n (lv' := [(0, Value.ref (aC Z 10)), (1, Value.int x1), (2, Value.int x2), (3, Value.int y3)]) dX4_putSetting_36 (Nat.le_of_ble_eq_true rfl) [1, 2, 3, 0] rfl ?_
      refine r_aload_n dX4_putSetting_37 0 rfl ?_
      refine r_get FX4 3 (Nat.le_of_ble_eq_true rfl) kf_X4_22 10 (qC_10 Z w) rfl dX4_putSetting_38 ?_
      refine r_iload_n dX4_putSetting_41 1 rfl ?_
      refine r_iload_n dX4_putSetting_42 2 rfl ?_
      refine r_iast (qC_12 Z w) rfl (uC_12 Z w x2) dX4_putSetting_43 (fun w4 => ?_)
      refine r_iload_n dX4_putSetting_44 3 rfl ?_
      exact r_iretw rfl dX4_putSetting_45
    · refine r_lv [] rfl ?_
      exact wk_X4_putSetting_b26 Z w
theorem m_X4_putSetting (Z : CSp) (w : Wd) (x1 : Int32) (x2 : Int32) : MetM (EC Z) yX4_putSetting cX4_putSetting 4 (some .int) { frames := 1, cells := 0, slots := 0, locals := 22 } oIw [Value.ref (aC Z 10), Value.int x1, Value.int x2] w (f_X4_putSetting x1 x2 w) := MetM_of (plainFor_of_name (by decide)) (Nat.le_of_ble_eq_true rfl) (wk_X4_putSetting Z w x1 x2)
abbrev MX4_putWave : Mt := (cX4_putWave, RX4, 4, some .int, { frames := 1, cells := 0, slots := 0, locals := 22 })
def f_X4_putWave_b21 (w : Wd) : Option (Int32 × Wd) :=
  some ((-10002 : Int32), w)
set_option maxRecDepth 100000 in
set_option maxHeartbeats 4000000 in
theorem wk_X4_putWave_b21 (Z : CSp) (w : Wd)   : Wm (EC Z) MX4_putWave oIw w 21 [] [] (f_X4_putWave_b21 w) := by
  unfold f_X4_putWave_b21
  refine r_sipush (v := -10002) dX4_putWave_21 (by decide) ?_
  exact r_iretw rfl dX4_putWave_24
def f_X4_putWave (x1 : Int32) (x2 : Int32) (w : Wd) : Option (Int32 × Wd) :=
  (f_X5_within x1 (0 : Int32) (2 : Int32)).bind (fun v1 => if v1 = 0 then (f_X4_putWave_b21 w) else ((f_X5_within x2 (10 : Int32) (2000 : Int32)).bind (fun v2 => if v2 = 0 then (f_X4_putWave_b21 w) else (if inb x1 3 = true then (jlet (w.1 11 (x1).toNatClampNeg) (fun y3 => if inb x1 3 = true then (wput w 11 (x1).toNatClampNeg x2 (fun w4 => some (y3, w4))) else none)) else none))))
set_option maxRecDepth 100000 in
set_option maxHeartbeats 4000000 in
theorem wk_X4_putWave (Z : CSp) (w : Wd) (x1 : Int32) (x2 : Int32)  : Wm (EC Z) MX4_putWave oIw w 0 [(0, Value.ref (aC Z 10)), (1, Value.int x1), (2, Value.int x2)] [] (f_X4_putWave x1 x2 w) := by
  unfold f_X4_putWave
  refine r_iload_n dX4_putWave_0 1 rfl ?_
  refine r_iconst (v := 0) dX4_putWave_1 (by decide) ?_
  refine r_iconst (v := 2) dX4_putWave_2 (by decide) ?_
  refine r_callSN_I [Value.int x1, Value.int (0 : Int32), Value.int (2 : Int32)] cfX5_within (m_X5_within Z w x1 (0 : Int32) (2 : Int32)) (n_X4_40 Z) ⟨rfl, rfl, (Nat.le_of_ble_eq_true rfl), (Nat.le_of_ble_eq_true rfl)⟩ rfl rfl (Nat.le_of_ble_eq_true rfl) dX4_putWave_3 (fun v1 => ?_)
  refine r_if_eq (tgt := 21) dX4_putWave_6 (by decide) (fun _ => ?_) (fun _ => ?_)
  · refine r_lv [] rfl ?_
    exact wk_X4_putWave_b21 Z w
  · refine r_iload_n dX4_putWave_9 2 rfl ?_
    refine r_bipush (v := 10) dX4_putWave_10 (by decide) ?_
    refine r_sipush (v := 2000) dX4_putWave_12 (by decide) ?_
    refine r_callSN_I [Value.int x2, Value.int (10 : Int32), Value.int (2000 : Int32)] cfX5_within (m_X5_within Z w x2 (10 : Int32) (2000 : Int32)) (n_X4_40 Z) ⟨rfl, rfl, (Nat.le_of_ble_eq_true rfl), (Nat.le_of_ble_eq_true rfl)⟩ rfl rfl (Nat.le_of_ble_eq_true rfl) dX4_putWave_15 (fun v2 => ?_)
    refine r_if_ne (tgt := 25) dX4_putWave_18 (by decide) (fun _ => ?_) (fun _ => ?_)
    · refine r_aload_n dX4_putWave_25 0 rfl ?_
      refine r_get FX4 2 (Nat.le_of_ble_eq_true rfl) kf_X4_18 10 (qC_10 Z w) rfl dX4_putWave_26 ?_
      refine r_iload_n dX4_putWave_29 1 rfl ?_
      refine r_iald 11 (qC_11 Z w) rfl dX4_putWave_30 ?_
      refine r_leti (fun y3 => ?_)
      refine r_istore_n (lv' := [(0, Value.ref (aC Z 10)), (1, Value.int x1), (2, Value.int x2), (3, Value.int y3)]) dX4_putWave_31 (Nat.le_of_ble_eq_true rfl) [1, 2, 3, 0] rfl ?_
      refine r_aload_n dX4_putWave_32 0 rfl ?_
      refine r_get FX4 2 (Nat.le_of_ble_eq_true rfl) kf_X4_18 10 (qC_10 Z w) rfl dX4_putWave_33 ?_
      refine r_iload_n dX4_putWave_36 1 rfl ?_
      refine r_iload_n dX4_putWave_37 2 rfl ?_
      refine r_iast (qC_11 Z w) rfl (uC_11 Z w x2) dX4_putWave_38 (fun w4 => ?_)
      refine r_iload_n dX4_putWave_39 3 rfl ?_
      exact r_iretw rfl dX4_putWave_40
    · refine r_lv [] rfl ?_
      exact wk_X4_putWave_b21 Z w
theorem m_X4_putWave (Z : CSp) (w : Wd) (x1 : Int32) (x2 : Int32) : MetM (EC Z) yX4_putWave cX4_putWave 4 (some .int) { frames := 1, cells := 0, slots := 0, locals := 22 } oIw [Value.ref (aC Z 10), Value.int x1, Value.int x2] w (f_X4_putWave x1 x2 w) := MetM_of (plainFor_of_name (by decide)) (Nat.le_of_ble_eq_true rfl) (wk_X4_putWave Z w x1 x2)
abbrev MX4_setting : Mt := (cX4_setting, RX4, 3, some .int, { frames := 1, cells := 0, slots := 0, locals := 22 })
def f_X4_setting_b64 (s0 : Int32) (w : Wd) : Option (Int32) :=
  some s0
set_option maxRecDepth 100000 in
set_option maxHeartbeats 4000000 in
theorem wk_X4_setting_b64 (Z : CSp) (w : Wd) (s0 : Int32)  : Wm (EC Z) MX4_setting (oI w) w 64 [] [Value.int s0] (f_X4_setting_b64 s0 w) := by
  unfold f_X4_setting_b64
  exact r_iret rfl dX4_setting_64
def f_X4_setting (x1 : Int32) (w : Wd) : Option (Int32) :=
  if x1 = 0 then (some (w.1 10 0)) else (if x1 = (1 : Int32) then (some (w.1 10 1)) else (jlet (x1 - (2 : Int32)) (fun y1 => (f_X5_within y1 (0 : Int32) (2 : Int32)).bind (fun v2 => if v2 = 0 then ((f_X5_within (y1 - (3 : Int32)) (0 : Int32) (5 : Int32)).bind (fun v3 => if v3 = 0 then (f_X4_setting_b64 (-10002 : Int32) w) else (if inb (y1 - (3 : Int32)) 6 = true then (f_X4_setting_b64 (w.1 12 (y1 - (3 : Int32)).toNatClampNeg) w) else none))) else (if inb y1 3 = true then (some (w.1 11 (y1).toNatClampNeg)) else none)))))
set_option maxRecDepth 100000 in
set_option maxHeartbeats 4000000 in
theorem wk_X4_setting (Z : CSp) (w : Wd) (x1 : Int32)  : Wm (EC Z) MX4_setting (oI w) w 0 [(0, Value.ref (aC Z 10)), (1, Value.int x1)] [] (f_X4_setting x1 w) := by
  unfold f_X4_setting
  refine r_iload_n dX4_setting_0 1 rfl ?_
  refine r_if_ne (tgt := 9) dX4_setting_1 (by decide) (fun _ => ?_) (fun _ => ?_)
  · refine r_iload_n dX4_setting_9 1 rfl ?_
    refine r_iconst (v := 1) dX4_setting_10 (by decide) ?_
    refine r_icmp_ne (tgt := 19) dX4_setting_11 (by decide) (fun _ => ?_) (fun _ => ?_)
    · refine r_iload_n dX4_setting_19 1 rfl ?_
      refine r_iconst (v := 2) dX4_setting_20 (by decide) ?_
      refine r_isub dX4_setting_21 ?_
      refine r_leti (fun y1 => ?_)
      refine r_istore_n (lv' := [(0, Value.ref (aC Z 10)), (1, Value.int x1), (2, Value.int y1)]) dX4_setting_22 (Nat.le_of_ble_eq_true rfl) [1, 2, 0] rfl ?_
      refine r_iload_n dX4_setting_23 2 rfl ?_
      refine r_iconst (v := 0) dX4_setting_24 (by decide) ?_
      refine r_iconst (v := 2) dX4_setting_25 (by decide) ?_
      refine r_callSN_I [Value.int y1, Value.int (0 : Int32), Value.int (2 : Int32)] cfX5_within (m_X5_within Z w y1 (0 : Int32) (2 : Int32)) (n_X4_40 Z) ⟨rfl, rfl, (Nat.le_of_ble_eq_true rfl), (Nat.le_of_ble_eq_true rfl)⟩ rfl rfl (Nat.le_of_ble_eq_true rfl) dX4_setting_26 (fun v2 => ?_)
      refine r_if_eq (tgt := 39) dX4_setting_29 (by decide) (fun _ => ?_) (fun _ => ?_)
      · refine r_iload_n dX4_setting_39 2 rfl ?_
        refine r_iconst (v := 3) dX4_setting_40 (by decide) ?_
        refine r_isub dX4_setting_41 ?_
        refine r_iconst (v := 0) dX4_setting_42 (by decide) ?_
        refine r_iconst (v := 5) dX4_setting_43 (by decide) ?_
        refine r_callSN_I [Value.int (y1 - (3 : Int32)), Value.int (0 : Int32), Value.int (5 : Int32)] cfX5_within (m_X5_within Z w (y1 - (3 : Int32)) (0 : Int32) (5 : Int32)) (n_X4_40 Z) ⟨rfl, rfl, (Nat.le_of_ble_eq_true rfl), (Nat.le_of_ble_eq_true rfl)⟩ rfl rfl (Nat.le_of_ble_eq_true rfl) dX4_setting_44 (fun v3 => ?_)
        refine r_if_eq (tgt := 61) dX4_setting_47 (by decide) (fun _ => ?_) (fun _ => ?_)
        · refine r_sipush (v := -10002) dX4_setting_61 (by decide) ?_
          refine r_lv [] rfl ?_
          exact wk_X4_setting_b64 Z w (-10002 : Int32)
        · refine r_aload_n dX4_setting_50 0 rfl ?_
          refine r_get FX4 3 (Nat.le_of_ble_eq_true rfl) kf_X4_22 10 (qC_10 Z w) rfl dX4_setting_51 ?_
          refine r_iload_n dX4_setting_54 2 rfl ?_
          refine r_iconst (v := 3) dX4_setting_55 (by decide) ?_
          refine r_isub dX4_setting_56 ?_
          refine r_iald 12 (qC_12 Z w) rfl dX4_setting_57 ?_
          refine r_goto (tgt := 64) dX4_setting_58 (by decide) ?_
          refine r_lv [] rfl ?_
          exact wk_X4_setting_b64 Z w (w.1 12 (y1 - (3 : Int32)).toNatClampNeg)
      · refine r_aload_n dX4_setting_32 0 rfl ?_
        refine r_get FX4 2 (Nat.le_of_ble_eq_true rfl) kf_X4_18 10 (qC_10 Z w) rfl dX4_setting_33 ?_
        refine r_iload_n dX4_setting_36 2 rfl ?_
        refine r_iald 11 (qC_11 Z w) rfl dX4_setting_37 ?_
        exact r_iret rfl dX4_setting_38
    · refine r_aload_n dX4_setting_14 0 rfl ?_
      refine r_get FX4 1 (Nat.le_of_ble_eq_true rfl) kf_X4_15 10 (qC_10 Z w) rfl dX4_setting_15 ?_
      exact r_iret rfl dX4_setting_18
  · refine r_aload_n dX4_setting_4 0 rfl ?_
    refine r_get FX4 0 (Nat.le_of_ble_eq_true rfl) kf_X4_9 10 (qC_10 Z w) rfl dX4_setting_5 ?_
    exact r_iret rfl dX4_setting_8
theorem m_X4_setting (Z : CSp) (w : Wd) (x1 : Int32) : MetM (EC Z) yX4_setting cX4_setting 3 (some .int) { frames := 1, cells := 0, slots := 0, locals := 22 } (oI w) [Value.ref (aC Z 10), Value.int x1] w (f_X4_setting x1 w) := MetM_of (plainFor_of_name (by decide)) (Nat.le_of_ble_eq_true rfl) (wk_X4_setting Z w x1)
