abbrev MX6_acrossOf : Mt := (cX6_acrossOf, RX6, 2, some .int, { frames := 0, cells := 0, slots := 0, locals := 0 })
def f_X6_acrossOf (x1 : Int32) (w : Wd) : Option (Int32) :=
  if inb x1 395 = true then (if inb (x1 + (2 : Int32)) 395 = true then (some ((w.1 1 (x1).toNatClampNeg) - (w.1 1 (x1 + (2 : Int32)).toNatClampNeg))) else none) else none
set_option maxRecDepth 100000 in
set_option maxHeartbeats 4000000 in
theorem wk_X6_acrossOf (Z : CSp) (w : Wd) (x1 : Int32)  : Wm (EM Z) MX6_acrossOf (oI w) w 0 [(0, Value.ref (aC Z 0)), (1, Value.int x1)] [] (f_X6_acrossOf x1 w) := by
  unfold f_X6_acrossOf
  refine r_aload_n dX6_acrossOf_0 0 rfl ?_
  refine r_get FX6 0 (Nat.le_of_ble_eq_true rfl) kf_X6_7 0 (qM_0 Z w) rfl dX6_acrossOf_1 ?_
  refine r_iload_n dX6_acrossOf_4 1 rfl ?_
  refine r_iald 1 (qM_1 Z w) rfl dX6_acrossOf_5 ?_
  refine r_aload_n dX6_acrossOf_6 0 rfl ?_
  refine r_get FX6 0 (Nat.le_of_ble_eq_true rfl) kf_X6_7 0 (qM_0 Z w) rfl dX6_acrossOf_7 ?_
  refine r_iload_n dX6_acrossOf_10 1 rfl ?_
  refine r_iconst (v := 2) dX6_acrossOf_11 (by decide) ?_
  refine r_iadd dX6_acrossOf_12 ?_
  refine r_iald 1 (qM_1 Z w) rfl dX6_acrossOf_13 ?_
  refine r_isub dX6_acrossOf_14 ?_
  exact r_iret rfl dX6_acrossOf_15
theorem m_X6_acrossOf (Z : CSp) (w : Wd) (x1 : Int32) : MetM (EM Z) yX6_acrossOf cX6_acrossOf 2 (some .int) { frames := 0, cells := 0, slots := 0, locals := 0 } (oI w) [Value.ref (aC Z 0), Value.int x1] w (f_X6_acrossOf x1 w) := MetM_of (plainFor_of_name (by decide)) (Nat.le_of_ble_eq_true rfl) (wk_X6_acrossOf Z w x1)
abbrev MX6_awayOf : Mt := (cX6_awayOf, RX6, 4, some .int, { frames := 0, cells := 0, slots := 0, locals := 0 })
def f_X6_awayOf_b32 (s0 : Int32) : Option (Int32) :=
  some s0
set_option maxRecDepth 100000 in
set_option maxHeartbeats 4000000 in
theorem wk_X6_awayOf_b32 (Z : CSp) (w : Wd) (s0 : Int32)  : Wm (EM Z) MX6_awayOf (oI w) w 32 [] [Value.int s0] (f_X6_awayOf_b32 s0) := by
  unfold f_X6_awayOf_b32
  exact r_iret rfl dX6_awayOf_32
def f_X6_awayOf_b17 (x2 : Int32) (s0 : Int32) : Option (Int32) :=
  if (x2 - s0) ≤ s0 then (f_X6_awayOf_b32 (x2 - s0)) else (f_X6_awayOf_b32 s0)
set_option maxRecDepth 100000 in
set_option maxHeartbeats 4000000 in
theorem wk_X6_awayOf_b17 (Z : CSp) (w : Wd) (x2 : Int32) (s0 : Int32)  : Wm (EM Z) MX6_awayOf (oI w) w 17 [(2, Value.int x2)] [Value.int s0] (f_X6_awayOf_b17 x2 s0) := by
  unfold f_X6_awayOf_b17
  refine r_istore_n (lv' := [(2, Value.int x2), (3, Value.int s0)]) dX6_awayOf_17 (Nat.le_of_ble_eq_true rfl) [1, 0] rfl ?_
  refine r_iload_n dX6_awayOf_18 1 rfl ?_
  refine r_iload_n dX6_awayOf_19 0 rfl ?_
  refine r_iload_n dX6_awayOf_20 1 rfl ?_
  refine r_isub dX6_awayOf_21 ?_
  refine r_icmp_ge (tgt := 29) dX6_awayOf_22 (by decide) (fun _ => ?_) (fun _ => ?_)
  · refine r_iload_n dX6_awayOf_29 0 rfl ?_
    refine r_iload_n dX6_awayOf_30 1 rfl ?_
    refine r_isub dX6_awayOf_31 ?_
    refine r_lv [] rfl ?_
    exact wk_X6_awayOf_b32 Z w (x2 - s0)
  · refine r_iload_n dX6_awayOf_25 1 rfl ?_
    refine r_goto (tgt := 32) dX6_awayOf_26 (by decide) ?_
    refine r_lv [] rfl ?_
    exact wk_X6_awayOf_b32 Z w s0
def f_X6_awayOf (x0 : Int32) (x1 : Int32) (x2 : Int32) : Option (Int32) :=
  if ¬ x2 = 0 then (jlet (jrem (x0 - x1) x2) (fun y1 => if 0 ≤ y1 then (f_X6_awayOf_b17 x2 y1) else (f_X6_awayOf_b17 x2 (y1 + x2)))) else none
set_option maxRecDepth 100000 in
set_option maxHeartbeats 4000000 in
theorem wk_X6_awayOf (Z : CSp) (w : Wd) (x0 : Int32) (x1 : Int32) (x2 : Int32)  : Wm (EM Z) MX6_awayOf (oI w) w 0 [(0, Value.int x0), (1, Value.int x1), (2, Value.int x2)] [] (f_X6_awayOf x0 x1 x2) := by
  unfold f_X6_awayOf
  refine r_iload_n dX6_awayOf_0 0 rfl ?_
  refine r_iload_n dX6_awayOf_1 1 rfl ?_
  refine r_isub dX6_awayOf_2 ?_
  refine r_iload_n dX6_awayOf_3 2 rfl ?_
  refine r_irem dX6_awayOf_4 ?_
  refine r_leti (fun y1 => ?_)
  refine r_istore_n (lv' := [(0, Value.int x0), (1, Value.int x1), (2, Value.int x2), (3, Value.int y1)]) dX6_awayOf_5 (Nat.le_of_ble_eq_true rfl) [1, 2, 3, 0] rfl ?_
  refine r_iload_n dX6_awayOf_6 3 rfl ?_
  refine r_if_ge (tgt := 16) dX6_awayOf_7 (by decide) (fun _ => ?_) (fun _ => ?_)
  · refine r_iload_n dX6_awayOf_16 3 rfl ?_
    refine r_lv [2] rfl ?_
    exact wk_X6_awayOf_b17 Z w x2 y1
  · refine r_iload_n dX6_awayOf_10 3 rfl ?_
    refine r_iload_n dX6_awayOf_11 2 rfl ?_
    refine r_iadd dX6_awayOf_12 ?_
    refine r_goto (tgt := 17) dX6_awayOf_13 (by decide) ?_
    refine r_lv [2] rfl ?_
    exact wk_X6_awayOf_b17 Z w x2 (y1 + x2)
theorem m_X6_awayOf (Z : CSp) (w : Wd) (x0 : Int32) (x1 : Int32) (x2 : Int32) : MetM (EM Z) yX6_awayOf cX6_awayOf 4 (some .int) { frames := 0, cells := 0, slots := 0, locals := 0 } (oI w) [Value.int x0, Value.int x1, Value.int x2] w (f_X6_awayOf x0 x1 x2) := MetM_of (plainFor_of_name (by decide)) (Nat.le_of_ble_eq_true rfl) (wk_X6_awayOf Z w x0 x1 x2)
abbrev MX6_bad : Mt := (cX6_bad, RX6, 1, some .int, { frames := 0, cells := 0, slots := 0, locals := 0 })
def f_X6_bad (w : Wd) : Option (Int32 × Wd) :=
  if inb (0 : Int32) 3 = true then (if inb (0 : Int32) 3 = true then (wput w 4 ((0 : Int32)).toNatClampNeg ((w.1 4 ((0 : Int32)).toNatClampNeg) + (1 : Int32)) (fun w1 => some ((-10002 : Int32), w1))) else none) else none
set_option maxRecDepth 100000 in
set_option maxHeartbeats 4000000 in
theorem wk_X6_bad (Z : CSp) (w : Wd)   : Wm (EM Z) MX6_bad oIw w 0 [(0, Value.ref (aC Z 0))] [] (f_X6_bad w) := by
  unfold f_X6_bad
  refine r_aload_n dX6_bad_0 0 rfl ?_
  refine r_get FX6 4 (Nat.le_of_ble_eq_true rfl) kf_X6_19 0 (qM_0 Z w) rfl dX6_bad_1 ?_
  refine r_iconst (v := 0) dX6_bad_4 (by decide) ?_
  refine r_dup2 dX6_bad_5 rfl rfl ?_
  refine r_iald 4 (qM_4 Z w) rfl dX6_bad_6 ?_
  refine r_iconst (v := 1) dX6_bad_7 (by decide) ?_
  refine r_iadd dX6_bad_8 ?_
  refine r_iast (qM_4 Z w) rfl (uM_4 Z w ((w.1 4 ((0 : Int32)).toNatClampNeg) + (1 : Int32))) dX6_bad_9 (fun w1 => ?_)
  refine r_sipush (v := -10002) dX6_bad_10 (by decide) ?_
  exact r_iretw rfl dX6_bad_13
theorem m_X6_bad (Z : CSp) (w : Wd)  : MetM (EM Z) yX6_bad cX6_bad 1 (some .int) { frames := 0, cells := 0, slots := 0, locals := 0 } oIw [Value.ref (aC Z 0)] w (f_X6_bad w) := MetM_of (plainFor_of_name (by decide)) (Nat.le_of_ble_eq_true rfl) (wk_X6_bad Z w )
abbrev MX6_cellPlace : Mt := (cX6_cellPlace, RX6, 3, some .int, { frames := 0, cells := 0, slots := 0, locals := 0 })
def f_X6_cellPlace (x0 : Int32) (x1 : Int32) (x2 : Int32) : Option (Int32) :=
  some (((11 : Int32) + ((192 : Int32) * x0)) + ((12 : Int32) * (((4 : Int32) * x2) + x1)))
set_option maxRecDepth 100000 in
set_option maxHeartbeats 4000000 in
theorem wk_X6_cellPlace (Z : CSp) (w : Wd) (x0 : Int32) (x1 : Int32) (x2 : Int32)  : Wm (EM Z) MX6_cellPlace (oI w) w 0 [(0, Value.int x0), (1, Value.int x1), (2, Value.int x2)] [] (f_X6_cellPlace x0 x1 x2) := by
  unfold f_X6_cellPlace
  refine r_bipush (v := 11) dX6_cellPlace_0 (by decide) ?_
  refine r_sipush (v := 192) dX6_cellPlace_2 (by decide) ?_
  refine r_iload_n dX6_cellPlace_5 0 rfl ?_
  refine r_imul dX6_cellPlace_6 ?_
  refine r_iadd dX6_cellPlace_7 ?_
  refine r_bipush (v := 12) dX6_cellPlace_8 (by decide) ?_
  refine r_iconst (v := 4) dX6_cellPlace_10 (by decide) ?_
  refine r_iload_n dX6_cellPlace_11 2 rfl ?_
  refine r_imul dX6_cellPlace_12 ?_
  refine r_iload_n dX6_cellPlace_13 1 rfl ?_
  refine r_iadd dX6_cellPlace_14 ?_
  refine r_imul dX6_cellPlace_15 ?_
  refine r_iadd dX6_cellPlace_16 ?_
  exact r_iret rfl dX6_cellPlace_17
theorem m_X6_cellPlace (Z : CSp) (w : Wd) (x0 : Int32) (x1 : Int32) (x2 : Int32) : MetM (EM Z) yX6_cellPlace cX6_cellPlace 3 (some .int) { frames := 0, cells := 0, slots := 0, locals := 0 } (oI w) [Value.int x0, Value.int x1, Value.int x2] w (f_X6_cellPlace x0 x1 x2) := MetM_of (plainFor_of_name (by decide)) (Nat.le_of_ble_eq_true rfl) (wk_X6_cellPlace Z w x0 x1 x2)
abbrev MX6_in : Mt := (cX6_in, RX6, 3, some .boolean, { frames := 0, cells := 0, slots := 0, locals := 0 })
def f_X6_in_b15 (s0 : Int32) : Option (Int32) :=
  if zb s0 = true then some s0 else none
set_option maxRecDepth 100000 in
set_option maxHeartbeats 4000000 in
theorem wk_X6_in_b15 (Z : CSp) (w : Wd) (s0 : Int32)  : Wm (EM Z) MX6_in (oI w) w 15 [] [Value.int s0] (f_X6_in_b15 s0) := by
  unfold f_X6_in_b15
  exact r_zret rfl dX6_in_15
def f_X6_in_b14  : Option (Int32) :=
  f_X6_in_b15 (0 : Int32)
set_option maxRecDepth 100000 in
set_option maxHeartbeats 4000000 in
theorem wk_X6_in_b14 (Z : CSp) (w : Wd)   : Wm (EM Z) MX6_in (oI w) w 14 [] [] (f_X6_in_b14 ) := by
  unfold f_X6_in_b14
  refine r_iconst (v := 0) dX6_in_14 (by decide) ?_
  exact wk_X6_in_b15 Z w (0 : Int32)
def f_X6_in (x0 : Int32) (x1 : Int32) (x2 : Int32) : Option (Int32) :=
  if x0 < x1 then (f_X6_in_b14) else (if x2 < x0 then (f_X6_in_b14) else (f_X6_in_b15 (1 : Int32)))
set_option maxRecDepth 100000 in
set_option maxHeartbeats 4000000 in
theorem wk_X6_in (Z : CSp) (w : Wd) (x0 : Int32) (x1 : Int32) (x2 : Int32)  : Wm (EM Z) MX6_in (oI w) w 0 [(0, Value.int x0), (1, Value.int x1), (2, Value.int x2)] [] (f_X6_in x0 x1 x2) := by
  unfold f_X6_in
  refine r_iload_n dX6_in_0 0 rfl ?_
  refine r_iload_n dX6_in_1 1 rfl ?_
  refine r_icmp_lt (tgt := 14) dX6_in_2 (by decide) (fun _ => ?_) (fun _ => ?_)
  · refine r_lv [] rfl ?_
    exact wk_X6_in_b14 Z w
  · refine r_iload_n dX6_in_5 0 rfl ?_
    refine r_iload_n dX6_in_6 2 rfl ?_
    refine r_icmp_gt (tgt := 14) dX6_in_7 (by decide) (fun _ => ?_) (fun _ => ?_)
    · refine r_lv [] rfl ?_
      exact wk_X6_in_b14 Z w
    · refine r_iconst (v := 1) dX6_in_10 (by decide) ?_
      refine r_goto (tgt := 15) dX6_in_11 (by decide) ?_
      refine r_lv [] rfl ?_
      exact wk_X6_in_b15 Z w (1 : Int32)
theorem m_X6_in (Z : CSp) (w : Wd) (x0 : Int32) (x1 : Int32) (x2 : Int32) : MetM (EM Z) yX6_in cX6_in 3 (some .boolean) { frames := 0, cells := 0, slots := 0, locals := 0 } (oI w) [Value.int x0, Value.int x1, Value.int x2] w (f_X6_in x0 x1 x2) := MetM_of (plainFor_of_name (by decide)) (Nat.le_of_ble_eq_true rfl) (wk_X6_in Z w x0 x1 x2)
abbrev MX6_isCell : Mt := (cX6_isCell, RX6, 4, some .boolean, { frames := 1, cells := 0, slots := 0, locals := 22 })
def f_X6_isCell_b46 (s0 : Int32) (w : Wd) : Option (Int32) :=
  if zb s0 = true then some s0 else none
set_option maxRecDepth 100000 in
set_option maxHeartbeats 4000000 in
theorem wk_X6_isCell_b46 (Z : CSp) (w : Wd) (s0 : Int32)  : Wm (EM Z) MX6_isCell (oI w) w 46 [] [Value.int s0] (f_X6_isCell_b46 s0 w) := by
  unfold f_X6_isCell_b46
  exact r_zret rfl dX6_isCell_46
def f_X6_isCell_b45 (w : Wd) : Option (Int32) :=
  f_X6_isCell_b46 (0 : Int32) w
set_option maxRecDepth 100000 in
set_option maxHeartbeats 4000000 in
theorem wk_X6_isCell_b45 (Z : CSp) (w : Wd)   : Wm (EM Z) MX6_isCell (oI w) w 45 [] [] (f_X6_isCell_b45 w) := by
  unfold f_X6_isCell_b45
  refine r_iconst (v := 0) dX6_isCell_45 (by decide) ?_
  exact wk_X6_isCell_b46 Z w (0 : Int32)
def f_X6_isCell (x1 : Int32) (x2 : Int32) (x3 : Int32) (w : Wd) : Option (Int32) :=
  (f_X6_in x1 (0 : Int32) (1 : Int32)).bind (fun v1 => if v1 = 0 then (f_X6_isCell_b45 w) else (if inb (0 : Int32) 395 = true then ((f_X6_in x2 (0 : Int32) ((w.1 1 ((0 : Int32)).toNatClampNeg) - (1 : Int32))).bind (fun v2 => if v2 = 0 then (f_X6_isCell_b45 w) else (if inb (1 : Int32) 395 = true then ((f_X6_in x3 (0 : Int32) ((w.1 1 ((1 : Int32)).toNatClampNeg) - (1 : Int32))).bind (fun v3 => if v3 = 0 then (f_X6_isCell_b45 w) else (f_X6_isCell_b46 (1 : Int32) w))) else none))) else none))
set_option maxRecDepth 100000 in
set_option maxHeartbeats 4000000 in
theorem wk_X6_isCell (Z : CSp) (w : Wd) (x1 : Int32) (x2 : Int32) (x3 : Int32)  : Wm (EM Z) MX6_isCell (oI w) w 0 [(0, Value.ref (aC Z 0)), (1, Value.int x1), (2, Value.int x2), (3, Value.int x3)] [] (f_X6_isCell x1 x2 x3 w) := by
  unfold f_X6_isCell
  refine r_iload_n dX6_isCell_0 1 rfl ?_
  refine r_iconst (v := 0) dX6_isCell_1 (by decide) ?_
  refine r_iconst (v := 1) dX6_isCell_2 (by decide) ?_
  refine r_callS_I [Value.int x1, Value.int (0 : Int32), Value.int (1 : Int32)] cfX6_in (m_X6_in Z w x1 (0 : Int32) (1 : Int32)) km_X6_60 ⟨rfl, rfl, (Nat.le_of_ble_eq_true rfl), (Nat.le_of_ble_eq_true rfl)⟩ rfl rfl (Nat.le_of_ble_eq_true rfl) dX6_isCell_3 (fun v1 => ?_)
  refine r_if_eq (tgt := 45) dX6_isCell_6 (by decide) (fun _ => ?_) (fun _ => ?_)
  · refine r_lv [] rfl ?_
    exact wk_X6_isCell_b45 Z w
  · refine r_iload_n dX6_isCell_9 2 rfl ?_
    refine r_iconst (v := 0) dX6_isCell_10 (by decide) ?_
    refine r_aload_n dX6_isCell_11 0 rfl ?_
    refine r_get FX6 0 (Nat.le_of_ble_eq_true rfl) kf_X6_7 0 (qM_0 Z w) rfl dX6_isCell_12 ?_
    refine r_iconst (v := 0) dX6_isCell_15 (by decide) ?_
    refine r_iald 1 (qM_1 Z w) rfl dX6_isCell_16 ?_
    refine r_iconst (v := 1) dX6_isCell_17 (by decide) ?_
    refine r_isub dX6_isCell_18 ?_
    refine r_callS_I [Value.int x2, Value.int (0 : Int32), Value.int ((w.1 1 ((0 : Int32)).toNatClampNeg) - (1 : Int32))] cfX6_in (m_X6_in Z w x2 (0 : Int32) ((w.1 1 ((0 : Int32)).toNatClampNeg) - (1 : Int32))) km_X6_60 ⟨rfl, rfl, (Nat.le_of_ble_eq_true rfl), (Nat.le_of_ble_eq_true rfl)⟩ rfl rfl (Nat.le_of_ble_eq_true rfl) dX6_isCell_19 (fun v2 => ?_)
    refine r_if_eq (tgt := 45) dX6_isCell_22 (by decide) (fun _ => ?_) (fun _ => ?_)
    · refine r_lv [] rfl ?_
      exact wk_X6_isCell_b45 Z w
    · refine r_iload_n dX6_isCell_25 3 rfl ?_
      refine r_iconst (v := 0) dX6_isCell_26 (by decide) ?_
      refine r_aload_n dX6_isCell_27 0 rfl ?_
      refine r_get FX6 0 (Nat.le_of_ble_eq_true rfl) kf_X6_7 0 (qM_0 Z w) rfl dX6_isCell_28 ?_
      refine r_iconst (v := 1) dX6_isCell_31 (by decide) ?_
      refine r_iald 1 (qM_1 Z w) rfl dX6_isCell_32 ?_
      refine r_iconst (v := 1) dX6_isCell_33 (by decide) ?_
      refine r_isub dX6_isCell_34 ?_
      refine r_callS_I [Value.int x3, Value.int (0 : Int32), Value.int ((w.1 1 ((1 : Int32)).toNatClampNeg) - (1 : Int32))] cfX6_in (m_X6_in Z w x3 (0 : Int32) ((w.1 1 ((1 : Int32)).toNatClampNeg) - (1 : Int32))) km_X6_60 ⟨rfl, rfl, (Nat.le_of_ble_eq_true rfl), (Nat.le_of_ble_eq_true rfl)⟩ rfl rfl (Nat.le_of_ble_eq_true rfl) dX6_isCell_35 (fun v3 => ?_)
      refine r_if_eq (tgt := 45) dX6_isCell_38 (by decide) (fun _ => ?_) (fun _ => ?_)
      · refine r_lv [] rfl ?_
        exact wk_X6_isCell_b45 Z w
      · refine r_iconst (v := 1) dX6_isCell_41 (by decide) ?_
        refine r_goto (tgt := 46) dX6_isCell_42 (by decide) ?_
        refine r_lv [] rfl ?_
        exact wk_X6_isCell_b46 Z w (1 : Int32)
theorem m_X6_isCell (Z : CSp) (w : Wd) (x1 : Int32) (x2 : Int32) (x3 : Int32) : MetM (EM Z) yX6_isCell cX6_isCell 4 (some .boolean) { frames := 1, cells := 0, slots := 0, locals := 22 } (oI w) [Value.ref (aC Z 0), Value.int x1, Value.int x2, Value.int x3] w (f_X6_isCell x1 x2 x3 w) := MetM_of (plainFor_of_name (by decide)) (Nat.le_of_ble_eq_true rfl) (wk_X6_isCell Z w x1 x2 x3)
abbrev MX6_isRate : Mt := (cX6_isRate, RX6, 5, some .boolean, { frames := 2, cells := 0, slots := 0, locals := 45 })
def f_X6_isRate_b25 (s0 : Int32) (w : Wd) : Option (Int32) :=
  if zb s0 = true then some s0 else none
set_option maxRecDepth 100000 in
set_option maxHeartbeats 4000000 in
theorem wk_X6_isRate_b25 (Z : CSp) (w : Wd) (s0 : Int32)  : Wm (EM Z) MX6_isRate (oI w) w 25 [] [Value.int s0] (f_X6_isRate_b25 s0 w) := by
  unfold f_X6_isRate_b25
  exact r_zret rfl dX6_isRate_25
def f_X6_isRate_b24 (w : Wd) : Option (Int32) :=
  f_X6_isRate_b25 (0 : Int32) w
set_option maxRecDepth 100000 in
set_option maxHeartbeats 4000000 in
theorem wk_X6_isRate_b24 (Z : CSp) (w : Wd)   : Wm (EM Z) MX6_isRate (oI w) w 24 [] [] (f_X6_isRate_b24 w) := by
  unfold f_X6_isRate_b24
  refine r_iconst (v := 0) dX6_isRate_24 (by decide) ?_
  exact wk_X6_isRate_b25 Z w (0 : Int32)
def f_X6_isRate (x1 : Int32) (x2 : Int32) (x3 : Int32) (x4 : Int32) (w : Wd) : Option (Int32) :=
  (f_X6_isCell x1 x2 x3 w).bind (fun v1 => if v1 = 0 then (f_X6_isRate_b24 w) else ((f_X6_in x4 (0 : Int32) (2 : Int32)).bind (fun v2 => if v2 = 0 then (f_X6_isRate_b24 w) else (f_X6_isRate_b25 (1 : Int32) w))))
set_option maxRecDepth 100000 in
set_option maxHeartbeats 4000000 in
theorem wk_X6_isRate (Z : CSp) (w : Wd) (x1 : Int32) (x2 : Int32) (x3 : Int32) (x4 : Int32)  : Wm (EM Z) MX6_isRate (oI w) w 0 [(0, Value.ref (aC Z 0)), (1, Value.int x1), (2, Value.int x2), (3, Value.int x3), (4, Value.int x4)] [] (f_X6_isRate x1 x2 x3 x4 w) := by
  unfold f_X6_isRate
  refine r_aload_n dX6_isRate_0 0 rfl ?_
  refine r_iload_n dX6_isRate_1 1 rfl ?_
  refine r_iload_n dX6_isRate_2 2 rfl ?_
  refine r_iload_n dX6_isRate_3 3 rfl ?_
  refine r_callV_I [Value.int x1, Value.int x2, Value.int x3] cfX6_isCell (m_X6_isCell Z w x1 x2 x3) km_X6_69 ⟨rfl, rfl, (Nat.le_of_ble_eq_true rfl), (Nat.le_of_ble_eq_true rfl)⟩ rfl rfl 0 (qM_0 Z w) rfl rfl (Nat.le_of_ble_eq_true rfl) dX6_isRate_4 (fun v1 => ?_)
  refine r_if_eq (tgt := 24) dX6_isRate_7 (by decide) (fun _ => ?_) (fun _ => ?_)
  · refine r_lv [] rfl ?_
    exact wk_X6_isRate_b24 Z w
  · refine r_iload dX6_isRate_10 4 rfl ?_
    refine r_iconst (v := 0) dX6_isRate_12 (by decide) ?_
    refine r_iconst (v := 2) dX6_isRate_13 (by decide) ?_
    refine r_callS_I [Value.int x4, Value.int (0 : Int32), Value.int (2 : Int32)] cfX6_in (m_X6_in Z w x4 (0 : Int32) (2 : Int32)) km_X6_60 ⟨rfl, rfl, (Nat.le_of_ble_eq_true rfl), (Nat.le_of_ble_eq_true rfl)⟩ rfl rfl (Nat.le_of_ble_eq_true rfl) dX6_isRate_14 (fun v2 => ?_)
    refine r_if_eq (tgt := 24) dX6_isRate_17 (by decide) (fun _ => ?_) (fun _ => ?_)
    · refine r_lv [] rfl ?_
      exact wk_X6_isRate_b24 Z w
    · refine r_iconst (v := 1) dX6_isRate_20 (by decide) ?_
      refine r_goto (tgt := 25) dX6_isRate_21 (by decide) ?_
      refine r_lv [] rfl ?_
      exact wk_X6_isRate_b25 Z w (1 : Int32)
theorem m_X6_isRate (Z : CSp) (w : Wd) (x1 : Int32) (x2 : Int32) (x3 : Int32) (x4 : Int32) : MetM (EM Z) yX6_isRate cX6_isRate 5 (some .boolean) { frames := 2, cells := 0, slots := 0, locals := 45 } (oI w) [Value.ref (aC Z 0), Value.int x1, Value.int x2, Value.int x3, Value.int x4] w (f_X6_isRate x1 x2 x3 x4 w) := MetM_of (plainFor_of_name (by decide)) (Nat.le_of_ble_eq_true rfl) (wk_X6_isRate Z w x1 x2 x3 x4)
abbrev MX6_no : Mt := (cX6_no, RX6, 1, some .int, { frames := 0, cells := 0, slots := 0, locals := 0 })
def f_X6_no (w : Wd) : Option (Int32 × Wd) :=
  if inb (1 : Int32) 3 = true then (if inb (1 : Int32) 3 = true then (wput w 4 ((1 : Int32)).toNatClampNeg ((w.1 4 ((1 : Int32)).toNatClampNeg) + (1 : Int32)) (fun w1 => some ((-10003 : Int32), w1))) else none) else none
set_option maxRecDepth 100000 in
set_option maxHeartbeats 4000000 in
theorem wk_X6_no (Z : CSp) (w : Wd)   : Wm (EM Z) MX6_no oIw w 0 [(0, Value.ref (aC Z 0))] [] (f_X6_no w) := by
  unfold f_X6_no
  refine r_aload_n dX6_no_0 0 rfl ?_
  refine r_get FX6 4 (Nat.le_of_ble_eq_true rfl) kf_X6_19 0 (qM_0 Z w) rfl dX6_no_1 ?_
  refine r_iconst (v := 1) dX6_no_4 (by decide) ?_
  refine r_dup2 dX6_no_5 rfl rfl ?_
  refine r_iald 4 (qM_4 Z w) rfl dX6_no_6 ?_
  refine r_iconst (v := 1) dX6_no_7 (by decide) ?_
  refine r_iadd dX6_no_8 ?_
  refine r_iast (qM_4 Z w) rfl (uM_4 Z w ((w.1 4 ((1 : Int32)).toNatClampNeg) + (1 : Int32))) dX6_no_9 (fun w1 => ?_)
  refine r_sipush (v := -10003) dX6_no_10 (by decide) ?_
  exact r_iretw rfl dX6_no_13
theorem m_X6_no (Z : CSp) (w : Wd)  : MetM (EM Z) yX6_no cX6_no 1 (some .int) { frames := 0, cells := 0, slots := 0, locals := 0 } oIw [Value.ref (aC Z 0)] w (f_X6_no w) := MetM_of (plainFor_of_name (by decide)) (Nat.le_of_ble_eq_true rfl) (wk_X6_no Z w )
abbrev MX6_downOf : Mt := (cX6_downOf, RX6, 2, some .int, { frames := 0, cells := 0, slots := 0, locals := 0 })
def f_X6_downOf (x1 : Int32) (w : Wd) : Option (Int32) :=
  if inb (x1 + (1 : Int32)) 395 = true then (if inb (x1 + (3 : Int32)) 395 = true then (some ((w.1 1 (x1 + (1 : Int32)).toNatClampNeg) - (w.1 1 (x1 + (3 : Int32)).toNatClampNeg))) else none) else none
set_option maxRecDepth 100000 in
set_option maxHeartbeats 4000000 in
theorem wk_X6_downOf (Z : CSp) (w : Wd) (x1 : Int32)  : Wm (EM Z) MX6_downOf (oI w) w 0 [(0, Value.ref (aC Z 0)), (1, Value.int x1)] [] (f_X6_downOf x1 w) := by
  unfold f_X6_downOf
  refine r_aload_n dX6_downOf_0 0 rfl ?_
  refine r_get FX6 0 (Nat.le_of_ble_eq_true rfl) kf_X6_7 0 (qM_0 Z w) rfl dX6_downOf_1 ?_
  refine r_iload_n dX6_downOf_4 1 rfl ?_
  refine r_iconst (v := 1) dX6_downOf_5 (by decide) ?_
  refine r_iadd dX6_downOf_6 ?_
  refine r_iald 1 (qM_1 Z w) rfl dX6_downOf_7 ?_
  refine r_aload_n dX6_downOf_8 0 rfl ?_
  refine r_get FX6 0 (Nat.le_of_ble_eq_true rfl) kf_X6_7 0 (qM_0 Z w) rfl dX6_downOf_9 ?_
  refine r_iload_n dX6_downOf_12 1 rfl ?_
  refine r_iconst (v := 3) dX6_downOf_13 (by decide) ?_
  refine r_iadd dX6_downOf_14 ?_
  refine r_iald 1 (qM_1 Z w) rfl dX6_downOf_15 ?_
  refine r_isub dX6_downOf_16 ?_
  exact r_iret rfl dX6_downOf_17
theorem m_X6_downOf (Z : CSp) (w : Wd) (x1 : Int32) : MetM (EM Z) yX6_downOf cX6_downOf 2 (some .int) { frames := 0, cells := 0, slots := 0, locals := 0 } (oI w) [Value.ref (aC Z 0), Value.int x1] w (f_X6_downOf x1 w) := MetM_of (plainFor_of_name (by decide)) (Nat.le_of_ble_eq_true rfl) (wk_X6_downOf Z w x1)
abbrev MX6_size : Mt := (cX6_size, RX6, 1, some .int, { frames := 0, cells := 0, slots := 0, locals := 0 })
def f_X6_size_b10 (s0 : Int32) : Option (Int32) :=
  some s0
set_option maxRecDepth 100000 in
set_option maxHeartbeats 4000000 in
theorem wk_X6_size_b10 (Z : CSp) (w : Wd) (s0 : Int32)  : Wm (EM Z) MX6_size (oI w) w 10 [] [Value.int s0] (f_X6_size_b10 s0) := by
  unfold f_X6_size_b10
  exact r_iret rfl dX6_size_10
def f_X6_size (x0 : Int32) : Option (Int32) :=
  if 0 ≤ x0 then (f_X6_size_b10 x0) else (f_X6_size_b10 (-x0))
set_option maxRecDepth 100000 in
set_option maxHeartbeats 4000000 in
theorem wk_X6_size (Z : CSp) (w : Wd) (x0 : Int32)  : Wm (EM Z) MX6_size (oI w) w 0 [(0, Value.int x0)] [] (f_X6_size x0) := by
  unfold f_X6_size
  refine r_iload_n dX6_size_0 0 rfl ?_
  refine r_if_ge (tgt := 9) dX6_size_1 (by decide) (fun _ => ?_) (fun _ => ?_)
  · refine r_iload_n dX6_size_9 0 rfl ?_
    refine r_lv [] rfl ?_
    exact wk_X6_size_b10 Z w x0
  · refine r_iload_n dX6_size_4 0 rfl ?_
    refine r_ineg dX6_size_5 ?_
    refine r_goto (tgt := 10) dX6_size_6 (by decide) ?_
    refine r_lv [] rfl ?_
    exact wk_X6_size_b10 Z w (-x0)
theorem m_X6_size (Z : CSp) (w : Wd) (x0 : Int32) : MetM (EM Z) yX6_size cX6_size 1 (some .int) { frames := 0, cells := 0, slots := 0, locals := 0 } (oI w) [Value.int x0] w (f_X6_size x0) := MetM_of (plainFor_of_name (by decide)) (Nat.le_of_ble_eq_true rfl) (wk_X6_size Z w x0)
abbrev MX6_sumOf : Mt := (cX6_sumOf, RX6, 2, some .int, { frames := 1, cells := 0, slots := 0, locals := 21 })
def f_X6_sumOf (x1 : Int32) (w : Wd) : Option (Int32) :=
  (f_X6_acrossOf x1 w).bind (fun v1 => (f_X6_size v1).bind (fun v2 => (f_X6_downOf x1 w).bind (fun v3 => (f_X6_size v3).bind (fun v4 => some (v2 + v4)))))
set_option maxRecDepth 100000 in
set_option maxHeartbeats 4000000 in
theorem wk_X6_sumOf (Z : CSp) (w : Wd) (x1 : Int32)  : Wm (EM Z) MX6_sumOf (oI w) w 0 [(0, Value.ref (aC Z 0)), (1, Value.int x1)] [] (f_X6_sumOf x1 w) := by
  unfold f_X6_sumOf
  refine r_aload_n dX6_sumOf_0 0 rfl ?_
  refine r_iload_n dX6_sumOf_1 1 rfl ?_
  refine r_callV_I [Value.int x1] cfX6_acrossOf (m_X6_acrossOf Z w x1) km_X6_118 ⟨rfl, rfl, (Nat.le_of_ble_eq_true rfl), (Nat.le_of_ble_eq_true rfl)⟩ rfl rfl 0 (qM_0 Z w) rfl rfl (Nat.le_of_ble_eq_true rfl) dX6_sumOf_2 (fun v1 => ?_)
  refine r_callS_I [Value.int v1] cfX6_size (m_X6_size Z w v1) km_X6_121 ⟨rfl, rfl, (Nat.le_of_ble_eq_true rfl), (Nat.le_of_ble_eq_true rfl)⟩ rfl rfl (Nat.le_of_ble_eq_true rfl) dX6_sumOf_5 (fun v2 => ?_)
  refine r_aload_n dX6_sumOf_8 0 rfl ?_
  refine r_iload_n dX6_sumOf_9 1 rfl ?_
  refine r_callV_I [Value.int x1] cfX6_downOf (m_X6_downOf Z w x1) km_X6_124 ⟨rfl, rfl, (Nat.le_of_ble_eq_true rfl), (Nat.le_of_ble_eq_true rfl)⟩ rfl rfl 0 (qM_0 Z w) rfl rfl (Nat.le_of_ble_eq_true rfl) dX6_sumOf_10 (fun v3 => ?_)
  refine r_callS_I [Value.int v3] cfX6_size (m_X6_size Z w v3) km_X6_121 ⟨rfl, rfl, (Nat.le_of_ble_eq_true rfl), (Nat.le_of_ble_eq_true rfl)⟩ rfl rfl (Nat.le_of_ble_eq_true rfl) dX6_sumOf_13 (fun v4 => ?_)
  refine r_iadd dX6_sumOf_16 ?_
  exact r_iret rfl dX6_sumOf_17
theorem m_X6_sumOf (Z : CSp) (w : Wd) (x1 : Int32) : MetM (EM Z) yX6_sumOf cX6_sumOf 2 (some .int) { frames := 1, cells := 0, slots := 0, locals := 21 } (oI w) [Value.ref (aC Z 0), Value.int x1] w (f_X6_sumOf x1 w) := MetM_of (plainFor_of_name (by decide)) (Nat.le_of_ble_eq_true rfl) (wk_X6_sumOf Z w x1)
abbrev MX6_phaseOf : Mt := (cX6_phaseOf, RX6, 3, some .float, { frames := 2, cells := 0, slots := 0, locals := 42 })
def f_X6_phaseOf_b53 (s0 : UInt32) (w : Wd) : Option (UInt32) :=
  some s0
set_option maxRecDepth 100000 in
set_option maxHeartbeats 4000000 in
theorem wk_X6_phaseOf_b53 (Z : CSp) (w : Wd) (s0 : UInt32)  : Wm (EM Z) MX6_phaseOf (oF w) w 53 [] [Value.float s0] (f_X6_phaseOf_b53 s0 w) := by
  unfold f_X6_phaseOf_b53
  exact r_fret rfl dX6_phaseOf_53
def f_X6_phaseOf (x1 : Int32) (w : Wd) : Option (UInt32) :=
  (f_X6_sumOf x1 w).bind (fun v1 => if v1 = 0 then (some (3212836864 : UInt32)) else ((f_X6_downOf x1 w).bind (fun v2 => (f_X6_sumOf x1 w).bind (fun v3 => if nn32 (FP.fdiv (FP.i2f v2) (FP.i2f v3)) = true then (jlet (FP.fdiv (FP.i2f v2) (FP.i2f v3)) (fun y4 => (f_X6_acrossOf x1 w).bind (fun v5 => if 0 ≤ v5 then ((f_X6_downOf x1 w).bind (fun v6 => if v6 < 0 then (if nn32 (FP.fadd (1082130432 : UInt32) y4) = true then (f_X6_phaseOf_b53 (FP.fadd (1082130432 : UInt32) y4) w) else none) else (f_X6_phaseOf_b53 y4 w))) else (if nn32 (FP.fsub FP.fconst2 y4) = true then (some (FP.fsub FP.fconst2 y4)) else none)))) else none))))
set_option maxRecDepth 100000 in
set_option maxHeartbeats 4000000 in
theorem wk_X6_phaseOf (Z : CSp) (w : Wd) (x1 : Int32)  : Wm (EM Z) MX6_phaseOf (oF w) w 0 [(0, Value.ref (aC Z 0)), (1, Value.int x1)] [] (f_X6_phaseOf x1 w) := by
  unfold f_X6_phaseOf
  refine r_aload_n dX6_phaseOf_0 0 rfl ?_
  refine r_iload_n dX6_phaseOf_1 1 rfl ?_
  refine r_callV_I [Value.int x1] cfX6_sumOf (m_X6_sumOf Z w x1) km_X6_127 ⟨rfl, rfl, (Nat.le_of_ble_eq_true rfl), (Nat.le_of_ble_eq_true rfl)⟩ rfl rfl 0 (qM_0 Z w) rfl rfl (Nat.le_of_ble_eq_true rfl) dX6_phaseOf_2 (fun v1 => ?_)
  refine r_if_ne (tgt := 11) dX6_phaseOf_5 (by decide) (fun _ => ?_) (fun _ => ?_)
  · refine r_aload_n dX6_phaseOf_11 0 rfl ?_
    refine r_iload_n dX6_phaseOf_12 1 rfl ?_
    refine r_callV_I [Value.int x1] cfX6_downOf (m_X6_downOf Z w x1) km_X6_124 ⟨rfl, rfl, (Nat.le_of_ble_eq_true rfl), (Nat.le_of_ble_eq_true rfl)⟩ rfl rfl 0 (qM_0 Z w) rfl rfl (Nat.le_of_ble_eq_true rfl) dX6_phaseOf_13 (fun v2 => ?_)
    refine r_i2f dX6_phaseOf_16 ?_
    refine r_aload_n dX6_phaseOf_17 0 rfl ?_
    refine r_iload_n dX6_phaseOf_18 1 rfl ?_
    refine r_callV_I [Value.int x1] cfX6_sumOf (m_X6_sumOf Z w x1) km_X6_127 ⟨rfl, rfl, (Nat.le_of_ble_eq_true rfl), (Nat.le_of_ble_eq_true rfl)⟩ rfl rfl 0 (qM_0 Z w) rfl rfl (Nat.le_of_ble_eq_true rfl) dX6_phaseOf_19 (fun v3 => ?_)
    refine r_i2f dX6_phaseOf_22 ?_
    refine r_fdiv dX6_phaseOf_23 ?_
    refine r_letf (fun y4 => ?_)
    refine r_fstore_n (lv' := [(0, Value.ref (aC Z 0)), (1, Value.int x1), (2, Value.float y4)]) dX6_phaseOf_24 (Nat.le_of_ble_eq_true rfl) [1, 2, 0] rfl ?_
    refine r_aload_n dX6_phaseOf_25 0 rfl ?_
    refine r_iload_n dX6_phaseOf_26 1 rfl ?_
    refine r_callV_I [Value.int x1] cfX6_acrossOf (m_X6_acrossOf Z w x1) km_X6_118 ⟨rfl, rfl, (Nat.le_of_ble_eq_true rfl), (Nat.le_of_ble_eq_true rfl)⟩ rfl rfl 0 (qM_0 Z w) rfl rfl (Nat.le_of_ble_eq_true rfl) dX6_phaseOf_27 (fun v5 => ?_)
    refine r_if_ge (tgt := 37) dX6_phaseOf_30 (by decide) (fun _ => ?_) (fun _ => ?_)
    · refine r_aload_n dX6_phaseOf_37 0 rfl ?_
      refine r_iload_n dX6_phaseOf_38 1 rfl ?_
      refine r_callV_I [Value.int x1] cfX6_downOf (m_X6_downOf Z w x1) km_X6_124 ⟨rfl, rfl, (Nat.le_of_ble_eq_true rfl), (Nat.le_of_ble_eq_true rfl)⟩ rfl rfl 0 (qM_0 Z w) rfl rfl (Nat.le_of_ble_eq_true rfl) dX6_phaseOf_39 (fun v6 => ?_)
      refine r_if_lt (tgt := 49) dX6_phaseOf_42 (by decide) (fun _ => ?_) (fun _ => ?_)
      · refine r_ldcf dX6_phaseOf_49 kk_X6_76 ?_
        refine r_fload_n dX6_phaseOf_51 2 rfl ?_
        refine r_fadd dX6_phaseOf_52 ?_
        refine r_lv [] rfl ?_
        exact wk_X6_phaseOf_b53 Z w (FP.fadd (1082130432 : UInt32) y4)
      · refine r_fload_n dX6_phaseOf_45 2 rfl ?_
        refine r_goto (tgt := 53) dX6_phaseOf_46 (by decide) ?_
        refine r_lv [] rfl ?_
        exact wk_X6_phaseOf_b53 Z w y4
    · refine r_fconst2 dX6_phaseOf_33 ?_
      refine r_fload_n dX6_phaseOf_34 2 rfl ?_
      refine r_fsub dX6_phaseOf_35 ?_
      exact r_fret rfl dX6_phaseOf_36
  · refine r_ldcf dX6_phaseOf_8 kk_X6_130 ?_
    exact r_fret rfl dX6_phaseOf_10
theorem m_X6_phaseOf (Z : CSp) (w : Wd) (x1 : Int32) : MetM (EM Z) yX6_phaseOf cX6_phaseOf 3 (some .float) { frames := 2, cells := 0, slots := 0, locals := 42 } (oF w) [Value.ref (aC Z 0), Value.int x1] w (f_X6_phaseOf x1 w) := MetM_of (plainFor_of_name (by decide)) (Nat.le_of_ble_eq_true rfl) (wk_X6_phaseOf Z w x1)
abbrev MX6_residueOf : Mt := (cX6_residueOf, RX6, 5, some .int, { frames := 3, cells := 0, slots := 0, locals := 64 })
def f_X6_residueOf (x1 : Int32) (x2 : Int32) (w : Wd) : Option (Int32) :=
  (f_X6_phaseOf x1 w).bind (fun v1 => if nn32 (FP.fmul v1 (FP.i2f x2)) = true then (jlet (FP.fmul v1 (FP.i2f x2)) (fun y2 => if nn32 (FP.fdiv y2 (1082130432 : UInt32)) = true then (if nn32 (FP.fadd (FP.fdiv y2 (1082130432 : UInt32)) (1056964608 : UInt32)) = true then (if ¬ x2 = 0 then (some (jrem (FP.f2i (FP.fadd (FP.fdiv y2 (1082130432 : UInt32)) (1056964608 : UInt32))) x2)) else none) else none) else none)) else none)
set_option maxRecDepth 100000 in
set_option maxHeartbeats 4000000 in
theorem wk_X6_residueOf (Z : CSp) (w : Wd) (x1 : Int32) (x2 : Int32)  : Wm (EM Z) MX6_residueOf (oI w) w 0 [(0, Value.ref (aC Z 0)), (1, Value.int x1), (2, Value.int x2)] [] (f_X6_residueOf x1 x2 w) := by
  unfold f_X6_residueOf
  refine r_aload_n dX6_residueOf_0 0 rfl ?_
  refine r_iload_n dX6_residueOf_1 1 rfl ?_
  refine r_callV_F [Value.int x1] cfX6_phaseOf (m_X6_phaseOf Z w x1) km_X6_131 ⟨rfl, rfl, (Nat.le_of_ble_eq_true rfl), (Nat.le_of_ble_eq_true rfl)⟩ rfl rfl 0 (qM_0 Z w) rfl rfl (Nat.le_of_ble_eq_true rfl) dX6_residueOf_2 (fun v1 => ?_)
  refine r_fstore_n (lv' := [(0, Value.ref (aC Z 0)), (1, Value.int x1), (2, Value.int x2), (3, Value.float v1)]) dX6_residueOf_5 (Nat.le_of_ble_eq_true rfl) [1, 2, 3, 0] rfl ?_
  refine r_fload_n dX6_residueOf_6 3 rfl ?_
  refine r_iload_n dX6_residueOf_7 2 rfl ?_
  refine r_i2f dX6_residueOf_8 ?_
  refine r_fmul dX6_residueOf_9 ?_
  refine r_letf (fun y2 => ?_)
  refine r_fstore (lv' := [(0, Value.ref (aC Z 0)), (1, Value.int x1), (2, Value.int x2), (3, Value.float v1), (4, Value.float y2)]) dX6_residueOf_10 (Nat.le_of_ble_eq_true rfl) [1, 2, 3, 4, 0] rfl ?_
  refine r_fload dX6_residueOf_12 4 rfl ?_
  refine r_ldcf dX6_residueOf_14 kk_X6_76 ?_
  refine r_fdiv dX6_residueOf_16 ?_
  refine r_ldcf dX6_residueOf_17 kk_X6_135 ?_
  refine r_fadd dX6_residueOf_19 ?_
  refine r_f2i dX6_residueOf_20 ?_
  refine r_iload_n dX6_residueOf_21 2 rfl ?_
  refine r_irem dX6_residueOf_22 ?_
  exact r_iret rfl dX6_residueOf_23
theorem m_X6_residueOf (Z : CSp) (w : Wd) (x1 : Int32) (x2 : Int32) : MetM (EM Z) yX6_residueOf cX6_residueOf 5 (some .int) { frames := 3, cells := 0, slots := 0, locals := 64 } (oI w) [Value.ref (aC Z 0), Value.int x1, Value.int x2] w (f_X6_residueOf x1 x2 w) := MetM_of (plainFor_of_name (by decide)) (Nat.le_of_ble_eq_true rfl) (wk_X6_residueOf Z w x1 x2)
abbrev MX6_away : Mt := (cX6_away, RX6, 8, some .int, { frames := 4, cells := 0, slots := 0, locals := 88 })
def f_X6_away_b84 (s0 : Int32) (w : Wd) : Option (Int32 × Wd) :=
  some (s0, w)
set_option maxRecDepth 100000 in
set_option maxHeartbeats 4000000 in
theorem wk_X6_away_b84 (Z : CSp) (w : Wd) (s0 : Int32)  : Wm (EM Z) MX6_away oIw w 84 [] [Value.int s0] (f_X6_away_b84 s0 w) := by
  unfold f_X6_away_b84
  exact r_iretw rfl dX6_away_84
def f_X6_away_b24 (w : Wd) : Option (Int32 × Wd) :=
  (f_X6_bad w).bind (fun z2 => some (z2.1, z2.2))
set_option maxRecDepth 100000 in
set_option maxHeartbeats 4000000 in
theorem wk_X6_away_b24 (Z : CSp) (w : Wd)   : Wm (EM Z) MX6_away oIw w 24 [(0, Value.ref (aC Z 0))] [] (f_X6_away_b24 w) := by
  unfold f_X6_away_b24
  refine r_aload_n dX6_away_24 0 rfl ?_
  refine r_callV_Iw [] cfX6_bad (m_X6_bad Z w) km_X6_54 ⟨rfl, rfl, (Nat.le_of_ble_eq_true rfl), (Nat.le_of_ble_eq_true rfl)⟩ rfl rfl 0 (qM_0 Z w) rfl rfl (Nat.le_of_ble_eq_true rfl) dX6_away_25 (fun z2 => ?_)
  exact r_iretw rfl dX6_away_28
def f_X6_away (x1 : Int32) (x2 : Int32) (x3 : Int32) (x4 : Int32) (x5 : Int32) (w : Wd) : Option (Int32 × Wd) :=
  (f_X6_isRate x1 x2 x3 x4 w).bind (fun v1 => if v1 = 0 then (f_X6_away_b24 w) else ((f_X6_in x5 (0 : Int32) (9999 : Int32)).bind (fun v2 => if v2 = 0 then (f_X6_away_b24 w) else ((f_X6_cellPlace x1 x2 x3).bind (fun v3 => jlet (v3 + ((4 : Int32) * x4)) (fun y4 => if inb ((2 : Int32) + x4) 395 = true then (jlet (w.1 1 ((2 : Int32) + x4).toNatClampNeg) (fun y5 => (f_X6_sumOf y4 w).bind (fun v6 => if v6 = 0 then ((f_X6_no w).bind (fun z9 => f_X6_away_b84 z9.1 z9.2)) else ((f_X6_residueOf y4 y5 w).bind (fun v7 => (f_X6_awayOf x5 v7 y5).bind (fun v8 => f_X6_away_b84 v8 w)))))) else none))))))
set_option maxRecDepth 100000 in
set_option maxHeartbeats 4000000 in
theorem wk_X6_away (Z : CSp) (w : Wd) (x1 : Int32) (x2 : Int32) (x3 : Int32) (x4 : Int32) (x5 : Int32)  : Wm (EM Z) MX6_away oIw w 0 [(0, Value.ref (aC Z 0)), (1, Value.int x1), (2, Value.int x2), (3, Value.int x3), (4, Value.int x4), (5, Value.int x5)] [] (f_X6_away x1 x2 x3 x4 x5 w) := by
  unfold f_X6_away
  refine r_aload_n dX6_away_0 0 rfl ?_
  refine r_iload_n dX6_away_1 1 rfl ?_
  refine r_iload_n dX6_away_2 2 rfl ?_
  refine r_iload_n dX6_away_3 3 rfl ?_
  refine r_iload dX6_away_4 4 rfl ?_
  refine r_callV_I [Value.int x1, Value.int x2, Value.int x3, Value.int x4] cfX6_isRate (m_X6_isRate Z w x1 x2 x3 x4) km_X6_136 ⟨rfl, rfl, (Nat.le_of_ble_eq_true rfl), (Nat.le_of_ble_eq_true rfl)⟩ rfl rfl 0 (qM_0 Z w) rfl rfl (Nat.le_of_ble_eq_true rfl) dX6_away_6 (fun v1 => ?_)
  refine r_if_eq (tgt := 24) dX6_away_9 (by decide) (fun _ => ?_) (fun _ => ?_)
  · refine r_lv [0] rfl ?_
    exact wk_X6_away_b24 Z w
  · refine r_iload dX6_away_12 5 rfl ?_
    refine r_iconst (v := 0) dX6_away_14 (by decide) ?_
    refine r_sipush (v := 9999) dX6_away_15 (by decide) ?_
    refine r_callS_I [Value.int x5, Value.int (0 : Int32), Value.int (9999 : Int32)] cfX6_in (m_X6_in Z w x5 (0 : Int32) (9999 : Int32)) km_X6_60 ⟨rfl, rfl, (Nat.le_of_ble_eq_true rfl), (Nat.le_of_ble_eq_true rfl)⟩ rfl rfl (Nat.le_of_ble_eq_true rfl) dX6_away_18 (fun v2 => ?_)
    refine r_if_ne (tgt := 29) dX6_away_21 (by decide) (fun _ => ?_) (fun _ => ?_)
    · refine r_iload_n dX6_away_29 1 rfl ?_
      refine r_iload_n dX6_away_30 2 rfl ?_
      refine r_iload_n dX6_away_31 3 rfl ?_
      refine r_callS_I [Value.int x1, Value.int x2, Value.int x3] cfX6_cellPlace (m_X6_cellPlace Z w x1 x2 x3) km_X6_72 ⟨rfl, rfl, (Nat.le_of_ble_eq_true rfl), (Nat.le_of_ble_eq_true rfl)⟩ rfl rfl (Nat.le_of_ble_eq_true rfl) dX6_away_32 (fun v3 => ?_)
      refine r_iconst (v := 4) dX6_away_35 (by decide) ?_
      refine r_iload dX6_away_36 4 rfl ?_
      refine r_imul dX6_away_38 ?_
      refine r_iadd dX6_away_39 ?_
      refine r_leti (fun y4 => ?_)
      refine r_istore (lv' := [(0, Value.ref (aC Z 0)), (1, Value.int x1), (2, Value.int x2), (3, Value.int x3), (4, Value.int x4), (5, Value.int x5), (6, Value.int y4)]) dX6_away_40 (Nat.le_of_ble_eq_true rfl) [1, 2, 3, 4, 5, 6, 0] rfl ?_
      refine r_aload_n dX6_away_42 0 rfl ?_
      refine r_get FX6 0 (Nat.le_of_ble_eq_true rfl) kf_X6_7 0 (qM_0 Z w) rfl dX6_away_43 ?_
      refine r_iconst (v := 2) dX6_away_46 (by decide) ?_
      refine r_iload dX6_away_47 4 rfl ?_
      refine r_iadd dX6_away_49 ?_
      refine r_iald 1 (qM_1 Z w) rfl dX6_away_50 ?_
      refine r_leti (fun y5 => ?_)
      refine r_istore (lv' := [(0, Value.ref (aC Z 0)), (1, Value.int x1), (2, Value.int x2), (3, Value.int x3), (4, Value.int x4), (5, Value.int x5), (6, Value.int y4), (7, Value.int y5)]) dX6_away_51 (Nat.le_of_ble_eq_true rfl) [1, 2, 3, 4, 5, 6, 7, 0] rfl ?_
      refine r_aload_n dX6_away_53 0 rfl ?_
      refine r_iload dX6_away_54 6 rfl ?_
      refine r_callV_I [Value.int y4] cfX6_sumOf (m_X6_sumOf Z w y4) km_X6_127 ⟨rfl, rfl, (Nat.le_of_ble_eq_true rfl), (Nat.le_of_ble_eq_true rfl)⟩ rfl rfl 0 (qM_0 Z w) rfl rfl (Nat.le_of_ble_eq_true rfl) dX6_away_56 (fun v6 => ?_)
      refine r_if_ne (tgt := 69) dX6_away_59 (by decide) (fun _ => ?_) (fun _ => ?_)
      · refine r_iload dX6_away_69 5 rfl ?_
        refine r_aload_n dX6_away_71 0 rfl ?_
        refine r_iload dX6_away_72 6 rfl ?_
        refine r_iload dX6_away_74 7 rfl ?_
        refine r_callV_I [Value.int y4, Value.int y5] cfX6_residueOf (m_X6_residueOf Z w y4 y5) km_X6_140 ⟨rfl, rfl, (Nat.le_of_ble_eq_true rfl), (Nat.le_of_ble_eq_true rfl)⟩ rfl rfl 0 (qM_0 Z w) rfl rfl (Nat.le_of_ble_eq_true rfl) dX6_away_76 (fun v7 => ?_)
        refine r_iload dX6_away_79 7 rfl ?_
        refine r_callS_I [Value.int x5, Value.int v7, Value.int y5] cfX6_awayOf (m_X6_awayOf Z w x5 v7 y5) km_X6_152 ⟨rfl, rfl, (Nat.le_of_ble_eq_true rfl), (Nat.le_of_ble_eq_true rfl)⟩ rfl rfl (Nat.le_of_ble_eq_true rfl) dX6_away_81 (fun v8 => ?_)
        refine r_lv [] rfl ?_
        exact wk_X6_away_b84 Z w v8
      · refine r_aload_n dX6_away_62 0 rfl ?_
        refine r_callV_Iw [] cfX6_no (m_X6_no Z w) km_X6_50 ⟨rfl, rfl, (Nat.le_of_ble_eq_true rfl), (Nat.le_of_ble_eq_true rfl)⟩ rfl rfl 0 (qM_0 Z w) rfl rfl (Nat.le_of_ble_eq_true rfl) dX6_away_63 (fun z9 => ?_)
        refine r_goto (tgt := 84) dX6_away_66 (by decide) ?_
        refine r_lv [] rfl ?_
        exact wk_X6_away_b84 Z z9.2 z9.1
    · refine r_lv [0] rfl ?_
      exact wk_X6_away_b24 Z w
theorem m_X6_away (Z : CSp) (w : Wd) (x1 : Int32) (x2 : Int32) (x3 : Int32) (x4 : Int32) (x5 : Int32) : MetM (EM Z) yX6_away cX6_away 8 (some .int) { frames := 4, cells := 0, slots := 0, locals := 88 } oIw [Value.ref (aC Z 0), Value.int x1, Value.int x2, Value.int x3, Value.int x4, Value.int x5] w (f_X6_away x1 x2 x3 x4 x5 w) := MetM_of (plainFor_of_name (by decide)) (Nat.le_of_ble_eq_true rfl) (wk_X6_away Z w x1 x2 x3 x4 x5)
abbrev MX6_back : Mt := (cX6_back, RX6, 2, some .int, { frames := 1, cells := 0, slots := 0, locals := 20 })
def f_X6_back_b24  : Nat → Int32 → Wd → Option (Int32 × Wd)
  | 0, _, _ => none
  | n + 1, x1, w =>
  if (395 : Int32) ≤ x1 then (some ((w.1 0 3), w)) else (if inb (((395 : Int32) * (w.1 0 3)) + x1) 1975 = true then (if inb x1 395 = true then (wput w 1 (x1).toNatClampNeg (w.1 3 (((395 : Int32) * (w.1 0 3)) + x1).toNatClampNeg) (fun w2 => f_X6_back_b24 n (x1 + 1) w2)) else none) else none)
set_option maxRecDepth 100000 in
set_option maxHeartbeats 4000000 in
theorem wk_X6_back_b24 (Z : CSp)   : ∀ (n : Nat) (x1 : Int32) (w : Wd), Wm (EM Z) MX6_back oIw w 24 [(0, Value.ref (aC Z 0)), (1, Value.int x1)] [] (f_X6_back_b24  n x1 w) := by
  intro n
  induction n with
  | zero =>
    intro x1 w
    exact r_none
  | succ n ih =>
    intro x1 w
    rw [f_X6_back_b24]
    refine r_iload_n dX6_back_24 1 rfl ?_
    refine r_sipush (v := 395) dX6_back_25 (by decide) ?_
    refine r_icmp_ge (tgt := 58) dX6_back_28 (by decide) (fun _ => ?_) (fun _ => ?_)
    · refine r_aload_n dX6_back_58 0 rfl ?_
      refine r_get FX6 3 (Nat.le_of_ble_eq_true rfl) kf_X6_46 0 (qM_0 Z w) rfl dX6_back_59 ?_
      exact r_iretw rfl dX6_back_62
    · refine r_aload_n dX6_back_31 0 rfl ?_
      refine r_get FX6 0 (Nat.le_of_ble_eq_true rfl) kf_X6_7 0 (qM_0 Z w) rfl dX6_back_32 ?_
      refine r_iload_n dX6_back_35 1 rfl ?_
      refine r_aload_n dX6_back_36 0 rfl ?_
      refine r_get FX6 2 (Nat.le_of_ble_eq_true rfl) kf_X6_16 0 (qM_0 Z w) rfl dX6_back_37 ?_
      refine r_sipush (v := 395) dX6_back_40 (by decide) ?_
      refine r_aload_n dX6_back_43 0 rfl ?_
      refine r_get FX6 3 (Nat.le_of_ble_eq_true rfl) kf_X6_46 0 (qM_0 Z w) rfl dX6_back_44 ?_
      refine r_imul dX6_back_47 ?_
      refine r_iload_n dX6_back_48 1 rfl ?_
      refine r_iadd dX6_back_49 ?_
      refine r_iald 3 (qM_3 Z w) rfl dX6_back_50 ?_
      refine r_iast (qM_1 Z w) rfl (uM_1 Z w (w.1 3 (((395 : Int32) * (w.1 0 3)) + x1).toNatClampNeg)) dX6_back_51 (fun w2 => ?_)
      refine r_iinc (lv' := [(0, Value.ref (aC Z 0)), (1, Value.int (x1 + 1))]) dX6_back_52 1 rfl (by rfl) (Nat.le_of_ble_eq_true rfl) [1, 0] rfl ?_
      refine r_goto (tgt := 24) dX6_back_55 (by decide) ?_
      exact ih (x1 + 1) w2
def f_X6_back (w : Wd) : Option (Int32 × Wd) :=
  if (w.1 0 3) = 0 then ((f_X6_no w).bind (fun z2 => some (z2.1, z2.2))) else (wput w 0 3 ((w.1 0 3) - (1 : Int32)) (fun w1 => f_X6_back_b24 FUEL (0 : Int32) w1))
set_option maxRecDepth 100000 in
set_option maxHeartbeats 4000000 in
theorem wk_X6_back (Z : CSp) (w : Wd)   : Wm (EM Z) MX6_back oIw w 0 [(0, Value.ref (aC Z 0))] [] (f_X6_back w) := by
  unfold f_X6_back
  refine r_aload_n dX6_back_0 0 rfl ?_
  refine r_get FX6 3 (Nat.le_of_ble_eq_true rfl) kf_X6_46 0 (qM_0 Z w) rfl dX6_back_1 ?_
  refine r_if_ne (tgt := 12) dX6_back_4 (by decide) (fun _ => ?_) (fun _ => ?_)
  · refine r_aload_n dX6_back_12 0 rfl ?_
    refine r_dup dX6_back_13 rfl ?_
    refine r_get FX6 3 (Nat.le_of_ble_eq_true rfl) kf_X6_46 0 (qM_0 Z w) rfl dX6_back_14 ?_
    refine r_iconst (v := 1) dX6_back_17 (by decide) ?_
    refine r_isub dX6_back_18 ?_
    refine r_puti FX6 tyX6_ok nmX6 kf_X6_46 (qM_0 Z w) ⟨(Nat.le_of_ble_eq_true rfl), (Nat.le_of_ble_eq_true rfl), rfl⟩ (by decide) (uM_0_3 Z w ((w.1 0 3) - (1 : Int32))) dX6_back_19 (fun w1 => ?_)
    refine r_iconst (v := 0) dX6_back_22 (by decide) ?_
    refine r_istore_n (lv' := [(0, Value.ref (aC Z 0)), (1, Value.int (0 : Int32))]) dX6_back_23 (Nat.le_of_ble_eq_true rfl) [1, 0] rfl ?_
    exact wk_X6_back_b24 Z FUEL (0 : Int32) w1
  · refine r_aload_n dX6_back_7 0 rfl ?_
    refine r_callV_Iw [] cfX6_no (m_X6_no Z w) km_X6_50 ⟨rfl, rfl, (Nat.le_of_ble_eq_true rfl), (Nat.le_of_ble_eq_true rfl)⟩ rfl rfl 0 (qM_0 Z w) rfl rfl (Nat.le_of_ble_eq_true rfl) dX6_back_8 (fun z2 => ?_)
    exact r_iretw rfl dX6_back_11
theorem m_X6_back (Z : CSp) (w : Wd)  : MetM (EM Z) yX6_back cX6_back 2 (some .int) { frames := 1, cells := 0, slots := 0, locals := 20 } oIw [Value.ref (aC Z 0)] w (f_X6_back w) := MetM_of (plainFor_of_name (by decide)) (Nat.le_of_ble_eq_true rfl) (wk_X6_back Z w )
abbrev MX6_bestOf : Mt := (cX6_bestOf, RX6, 9, some .int, { frames := 1, cells := 0, slots := 0, locals := 23 })
def f_X6_bestOf_b175 (x1 : Int32) (x2 : Int32) (x3 : Int32) (x4 : Int32) (k23 : Int32 → Int32 → Int32 → Wd → Option (Int32 × Wd)) (w : Wd) : Option (Int32 × Wd) :=
  k23 x2 x3 (x4 + 1) w
set_option maxRecDepth 100000 in
set_option maxHeartbeats 4000000 in
theorem wk_X6_bestOf_b175 (Z : CSp) (w : Wd) (x1 : Int32) (x2 : Int32) (x3 : Int32) (x4 : Int32) (k23 : Int32 → Int32 → Int32 → Wd → Option (Int32 × Wd)) (hk23 : ∀ (x2 : Int32) (x3 : Int32) (x4 : Int32) (w : Wd), Wm (EM Z) MX6_bestOf oIw w 23 [(0, Value.ref (aC Z 0)), (1, Value.int x1), (2, Value.int x2), (3, Value.int x3), (4, Value.int x4)] [] (k23 x2 x3 x4 w)) : Wm (EM Z) MX6_bestOf oIw w 175 [(0, Value.ref (aC Z 0)), (1, Value.int x1), (2, Value.int x2), (3, Value.int x3), (4, Value.int x4)] [] (f_X6_bestOf_b175 x1 x2 x3 x4 k23 w) := by
  unfold f_X6_bestOf_b175
  refine r_iinc (lv' := [(0, Value.ref (aC Z 0)), (1, Value.int x1), (2, Value.int x2), (3, Value.int x3), (4, Value.int (x4 + 1))]) dX6_bestOf_175 4 rfl (by rfl) (Nat.le_of_ble_eq_true rfl) [1, 2, 3, 4, 0] rfl ?_
  refine r_goto (tgt := 23) dX6_bestOf_178 (by decide) ?_
  exact hk23 x2 x3 (x4 + 1) w
def f_X6_bestOf_b169 (x1 : Int32) (x4 : Int32) (x6 : Int32) (k23 : Int32 → Int32 → Int32 → Wd → Option (Int32 × Wd)) (w : Wd) : Option (Int32 × Wd) :=
  f_X6_bestOf_b175 x1 x4 x6 x4 k23 w
set_option maxRecDepth 100000 in
set_option maxHeartbeats 4000000 in
theorem wk_X6_bestOf_b169 (Z : CSp) (w : Wd) (x1 : Int32) (x4 : Int32) (x6 : Int32) (k23 : Int32 → Int32 → Int32 → Wd → Option (Int32 × Wd)) (hk23 : ∀ (x2 : Int32) (x3 : Int32) (x4 : Int32) (w : Wd), Wm (EM Z) MX6_bestOf oIw w 23 [(0, Value.ref (aC Z 0)), (1, Value.int x1), (2, Value.int x2), (3, Value.int x3), (4, Value.int x4)] [] (k23 x2 x3 x4 w)) : Wm (EM Z) MX6_bestOf oIw w 169 [(0, Value.ref (aC Z 0)), (1, Value.int x1), (4, Value.int x4), (6, Value.int x6)] [] (f_X6_bestOf_b169 x1 x4 x6 k23 w) := by
  unfold f_X6_bestOf_b169
  refine r_iload dX6_bestOf_169 2 rfl ?_
  refine r_istore_n (lv' := [(0, Value.ref (aC Z 0)), (1, Value.int x1), (2, Value.int x4), (4, Value.int x4), (6, Value.int x6)]) dX6_bestOf_171 (Nat.le_of_ble_eq_true rfl) [1, 2, 0, 3, 4] rfl ?_
  refine r_iload dX6_bestOf_172 4 rfl ?_
  refine r_istore_n (lv' := [(0, Value.ref (aC Z 0)), (1, Value.int x1), (2, Value.int x4), (3, Value.int x6), (4, Value.int x4), (6, Value.int x6)]) dX6_bestOf_174 (Nat.le_of_ble_eq_true rfl) [1, 2, 3, 0, 4, 5] rfl ?_
  refine r_lv [0, 1, 2, 3, 4] rfl ?_
  exact wk_X6_bestOf_b175 Z w x1 x4 x6 x4 k23 hk23
def f_X6_bestOf_b147 (x1 : Int32) (x2 : Int32) (x3 : Int32) (x4 : Int32) (x6 : Int32) (s0 : Int32) (k23 : Int32 → Int32 → Int32 → Wd → Option (Int32 × Wd)) (w : Wd) : Option (Int32 × Wd) :=
  wput w 0 12 s0 (fun w3 => wput w3 0 13 x4 (fun w4 => if x2 = (-10001 : Int32) then (f_X6_bestOf_b169 x1 x4 x6 k23 w4) else (if x3 ≤ x6 then (f_X6_bestOf_b175 x1 x2 x3 x4 k23 w4) else (f_X6_bestOf_b169 x1 x4 x6 k23 w4))))
set_option maxRecDepth 100000 in
set_option maxHeartbeats 4000000 in
theorem wk_X6_bestOf_b147 (Z : CSp) (w : Wd) (x1 : Int32) (x2 : Int32) (x3 : Int32) (x4 : Int32) (x6 : Int32) (s0 : Int32) (k23 : Int32 → Int32 → Int32 → Wd → Option (Int32 × Wd)) (hk23 : ∀ (x2 : Int32) (x3 : Int32) (x4 : Int32) (w : Wd), Wm (EM Z) MX6_bestOf oIw w 23 [(0, Value.ref (aC Z 0)), (1, Value.int x1), (2, Value.int x2), (3, Value.int x3), (4, Value.int x4)] [] (k23 x2 x3 x4 w)) : Wm (EM Z) MX6_bestOf oIw w 147 [(0, Value.ref (aC Z 0)), (1, Value.int x1), (2, Value.int x2), (3, Value.int x3), (4, Value.int x4), (6, Value.int x6)] [Value.int s0, Value.ref (aC Z 0)] (f_X6_bestOf_b147 x1 x2 x3 x4 x6 s0 k23 w) := by
  unfold f_X6_bestOf_b147
  refine r_puti FX6 tyX6_ok nmX6 kf_X6_155 (qM_0 Z w) ⟨(Nat.le_of_ble_eq_true rfl), (Nat.le_of_ble_eq_true rfl), rfl⟩ (by decide) (uM_0_12 Z w s0) dX6_bestOf_147 (fun w3 => ?_)
  refine r_aload_n dX6_bestOf_150 0 rfl ?_
  refine r_iload dX6_bestOf_151 4 rfl ?_
  refine r_puti FX6 tyX6_ok nmX6 kf_X6_158 (qM_0 Z w3) ⟨(Nat.le_of_ble_eq_true rfl), (Nat.le_of_ble_eq_true rfl), rfl⟩ (by decide) (uM_0_13 Z w3 x4) dX6_bestOf_153 (fun w4 => ?_)
  refine r_iload_n dX6_bestOf_156 2 rfl ?_
  refine r_sipush (v := -10001) dX6_bestOf_157 (by decide) ?_
  refine r_icmp_eq (tgt := 169) dX6_bestOf_160 (by decide) (fun _ => ?_) (fun _ => ?_)
  · refine r_lv [0, 1, 4, 5] rfl ?_
    exact wk_X6_bestOf_b169 Z w4 x1 x4 x6 k23 hk23
  · refine r_iload dX6_bestOf_163 5 rfl ?_
    refine r_iload_n dX6_bestOf_165 3 rfl ?_
    refine r_icmp_ge (tgt := 175) dX6_bestOf_166 (by decide) (fun _ => ?_) (fun _ => ?_)
    · refine r_lv [0, 1, 2, 3, 4] rfl ?_
      exact wk_X6_bestOf_b175 Z w4 x1 x2 x3 x4 k23 hk23
    · refine r_lv [0, 1, 4, 5] rfl ?_
      exact wk_X6_bestOf_b169 Z w4 x1 x4 x6 k23 hk23
def f_X6_bestOf_b122 (x1 : Int32) (x2 : Int32) (x3 : Int32) (x4 : Int32) (x5 : Int32) (x6 : Int32) (k23 : Int32 → Int32 → Int32 → Wd → Option (Int32 × Wd)) (w : Wd) : Option (Int32 × Wd) :=
  if x5 = 0 then (f_X6_bestOf_b175 x1 x2 x3 x4 k23 w) else (if (w.1 0 12) = (-10001 : Int32) then (f_X6_bestOf_b147 x1 x2 x3 x4 x6 x4 k23 w) else (f_X6_bestOf_b147 x1 x2 x3 x4 x6 (w.1 0 12) k23 w))
set_option maxRecDepth 100000 in
set_option maxHeartbeats 4000000 in
theorem wk_X6_bestOf_b122 (Z : CSp) (w : Wd) (x1 : Int32) (x2 : Int32) (x3 : Int32) (x4 : Int32) (x5 : Int32) (x6 : Int32) (k23 : Int32 → Int32 → Int32 → Wd → Option (Int32 × Wd)) (hk23 : ∀ (x2 : Int32) (x3 : Int32) (x4 : Int32) (w : Wd), Wm (EM Z) MX6_bestOf oIw w 23 [(0, Value.ref (aC Z 0)), (1, Value.int x1), (2, Value.int x2), (3, Value.int x3), (4, Value.int x4)] [] (k23 x2 x3 x4 w)) : Wm (EM Z) MX6_bestOf oIw w 122 [(0, Value.ref (aC Z 0)), (1, Value.int x1), (2, Value.int x2), (3, Value.int x3), (4, Value.int x4), (5, Value.int x5), (6, Value.int x6)] [] (f_X6_bestOf_b122 x1 x2 x3 x4 x5 x6 k23 w) := by
  unfold f_X6_bestOf_b122
  refine r_iload dX6_bestOf_122 5 rfl ?_
  refine r_if_eq (tgt := 175) dX6_bestOf_124 (by decide) (fun _ => ?_) (fun _ => ?_)
  · refine r_lv [0, 1, 2, 3, 4] rfl ?_
    exact wk_X6_bestOf_b175 Z w x1 x2 x3 x4 k23 hk23
  · refine r_aload_n dX6_bestOf_127 0 rfl ?_
    refine r_aload_n dX6_bestOf_128 0 rfl ?_
    refine r_get FX6 12 (Nat.le_of_ble_eq_true rfl) kf_X6_155 0 (qM_0 Z w) rfl dX6_bestOf_129 ?_
    refine r_sipush (v := -10001) dX6_bestOf_132 (by decide) ?_
    refine r_icmp_ne (tgt := 143) dX6_bestOf_135 (by decide) (fun _ => ?_) (fun _ => ?_)
    · refine r_aload_n dX6_bestOf_143 0 rfl ?_
      refine r_get FX6 12 (Nat.le_of_ble_eq_true rfl) kf_X6_155 0 (qM_0 Z w) rfl dX6_bestOf_144 ?_
      refine r_lv [0, 1, 2, 3, 4, 6] rfl ?_
      exact wk_X6_bestOf_b147 Z w x1 x2 x3 x4 x6 (w.1 0 12) k23 hk23
    · refine r_iload dX6_bestOf_138 4 rfl ?_
      refine r_goto (tgt := 147) dX6_bestOf_140 (by decide) ?_
      refine r_lv [0, 1, 2, 3, 4, 6] rfl ?_
      exact wk_X6_bestOf_b147 Z w x1 x2 x3 x4 x6 x4 k23 hk23
def f_X6_bestOf_b116 (x1 : Int32) (x2 : Int32) (x3 : Int32) (x4 : Int32) (x5 : Int32) (x6 : Int32) (x7 : Int32) (k44 : Int32 → Int32 → Int32 → Wd → Option (Int32 × Wd)) (w : Wd) : Option (Int32 × Wd) :=
  k44 x5 x6 (x7 + 1) w
set_option maxRecDepth 100000 in
set_option maxHeartbeats 4000000 in
theorem wk_X6_bestOf_b116 (Z : CSp) (w : Wd) (x1 : Int32) (x2 : Int32) (x3 : Int32) (x4 : Int32) (x5 : Int32) (x6 : Int32) (x7 : Int32) (k44 : Int32 → Int32 → Int32 → Wd → Option (Int32 × Wd)) (hk44 : ∀ (x5 : Int32) (x6 : Int32) (x7 : Int32) (w : Wd), Wm (EM Z) MX6_bestOf oIw w 44 [(0, Value.ref (aC Z 0)), (1, Value.int x1), (2, Value.int x2), (3, Value.int x3), (4, Value.int x4), (5, Value.int x5), (6, Value.int x6), (7, Value.int x7)] [] (k44 x5 x6 x7 w)) : Wm (EM Z) MX6_bestOf oIw w 116 [(0, Value.ref (aC Z 0)), (1, Value.int x1), (2, Value.int x2), (3, Value.int x3), (4, Value.int x4), (5, Value.int x5), (6, Value.int x6), (7, Value.int x7)] [] (f_X6_bestOf_b116 x1 x2 x3 x4 x5 x6 x7 k44 w) := by
  unfold f_X6_bestOf_b116
  refine r_iinc (lv' := [(0, Value.ref (aC Z 0)), (1, Value.int x1), (2, Value.int x2), (3, Value.int x3), (4, Value.int x4), (5, Value.int x5), (6, Value.int x6), (7, Value.int (x7 + 1))]) dX6_bestOf_116 7 rfl (by rfl) (Nat.le_of_ble_eq_true rfl) [1, 2, 3, 4, 5, 6, 7, 0] rfl ?_
  refine r_goto (tgt := 44) dX6_bestOf_119 (by decide) ?_
  exact hk44 x5 x6 (x7 + 1) w
def f_X6_bestOf_b104 (x1 : Int32) (x2 : Int32) (x3 : Int32) (x4 : Int32) (x6 : Int32) (x7 : Int32) (x8 : Int32) (s0 : Int32) (k44 : Int32 → Int32 → Int32 → Wd → Option (Int32 × Wd)) (w : Wd) : Option (Int32 × Wd) :=
  jlet (x6 + (x8 * x8)) (fun y2 => f_X6_bestOf_b116 x1 x2 x3 x4 s0 y2 x7 k44 w)
set_option maxRecDepth 100000 in
set_option maxHeartbeats 4000000 in
theorem wk_X6_bestOf_b104 (Z : CSp) (w : Wd) (x1 : Int32) (x2 : Int32) (x3 : Int32) (x4 : Int32) (x6 : Int32) (x7 : Int32) (x8 : Int32) (s0 : Int32) (k44 : Int32 → Int32 → Int32 → Wd → Option (Int32 × Wd)) (hk44 : ∀ (x5 : Int32) (x6 : Int32) (x7 : Int32) (w : Wd), Wm (EM Z) MX6_bestOf oIw w 44 [(0, Value.ref (aC Z 0)), (1, Value.int x1), (2, Value.int x2), (3, Value.int x3), (4, Value.int x4), (5, Value.int x5), (6, Value.int x6), (7, Value.int x7)] [] (k44 x5 x6 x7 w)) : Wm (EM Z) MX6_bestOf oIw w 104 [(0, Value.ref (aC Z 0)), (1, Value.int x1), (2, Value.int x2), (3, Value.int x3), (4, Value.int x4), (6, Value.int x6), (7, Value.int x7), (8, Value.int x8)] [Value.int s0] (f_X6_bestOf_b104 x1 x2 x3 x4 x6 x7 x8 s0 k44 w) := by
  unfold f_X6_bestOf_b104
  refine r_istore (lv' := [(0, Value.ref (aC Z 0)), (1, Value.int x1), (2, Value.int x2), (3, Value.int x3), (4, Value.int x4), (5, Value.int s0), (6, Value.int x6), (7, Value.int x7), (8, Value.int x8)]) dX6_bestOf_104 (Nat.le_of_ble_eq_true rfl) [1, 2, 3, 4, 5, 0, 6, 7, 8] rfl ?_
  refine r_iload dX6_bestOf_106 6 rfl ?_
  refine r_iload dX6_bestOf_108 8 rfl ?_
  refine r_iload dX6_bestOf_110 8 rfl ?_
  refine r_imul dX6_bestOf_112 ?_
  refine r_iadd dX6_bestOf_113 ?_
  refine r_leti (fun y2 => ?_)
  refine r_istore (lv' := [(0, Value.ref (aC Z 0)), (1, Value.int x1), (2, Value.int x2), (3, Value.int x3), (4, Value.int x4), (5, Value.int s0), (6, Value.int y2), (7, Value.int x7), (8, Value.int x8)]) dX6_bestOf_114 (Nat.le_of_ble_eq_true rfl) [1, 2, 3, 4, 5, 6, 0, 7, 8] rfl ?_
  refine r_lv [0, 1, 2, 3, 4, 5, 6, 7] rfl ?_
  exact wk_X6_bestOf_b116 Z w x1 x2 x3 x4 s0 y2 x7 k44 hk44
def f_X6_bestOf_b44 (x1 : Int32) (x2 : Int32) (x3 : Int32) (x4 : Int32) (k23 : Int32 → Int32 → Int32 → Wd → Option (Int32 × Wd)) : Nat → Int32 → Int32 → Int32 → Wd → Option (Int32 × Wd)
  | 0, _, _, _, _ => none
  | n + 1, x5, x6, x7, w =>
  if (3 : Int32) ≤ x7 then (f_X6_bestOf_b122 x1 x2 x3 x4 x5 x6 k23 w) else (if x5 = 0 then (f_X6_bestOf_b122 x1 x2 x3 x4 x5 x6 k23 w) else (if ((x1 >>> (x7 &&& 31)) &&& (1 : Int32)) = (1 : Int32) then (if inb x7 3 = true then (if inb ((2 : Int32) + x7) 395 = true then ((f_X6_awayOf x4 (w.1 6 (x7).toNatClampNeg) (w.1 1 ((2 : Int32) + x7).toNatClampNeg)).bind (fun v2 => if inb (5 : Int32) 395 = true then (if (w.1 1 ((5 : Int32)).toNatClampNeg) < v2 then (f_X6_bestOf_b104 x1 x2 x3 x4 x6 x7 v2 (0 : Int32) (f_X6_bestOf_b44 x1 x2 x3 x4 k23 n) w) else (f_X6_bestOf_b104 x1 x2 x3 x4 x6 x7 v2 (1 : Int32) (f_X6_bestOf_b44 x1 x2 x3 x4 k23 n) w)) else none)) else none) else none) else (f_X6_bestOf_b116 x1 x2 x3 x4 x5 x6 x7 (f_X6_bestOf_b44 x1 x2 x3 x4 k23 n) w)))
set_option maxRecDepth 100000 in
set_option maxHeartbeats 4000000 in
theorem wk_X6_bestOf_b44 (Z : CSp) (x1 : Int32) (x2 : Int32) (x3 : Int32) (x4 : Int32) (k23 : Int32 → Int32 → Int32 → Wd → Option (Int32 × Wd)) (hk23 : ∀ (x2 : Int32) (x3 : Int32) (x4 : Int32) (w : Wd), Wm (EM Z) MX6_bestOf oIw w 23 [(0, Value.ref (aC Z 0)), (1, Value.int x1), (2, Value.int x2), (3, Value.int x3), (4, Value.int x4)] [] (k23 x2 x3 x4 w)) : ∀ (n : Nat) (x5 : Int32) (x6 : Int32) (x7 : Int32) (w : Wd), Wm (EM Z) MX6_bestOf oIw w 44 [(0, Value.ref (aC Z 0)), (1, Value.int x1), (2, Value.int x2), (3, Value.int x3), (4, Value.int x4), (5, Value.int x5), (6, Value.int x6), (7, Value.int x7)] [] (f_X6_bestOf_b44 x1 x2 x3 x4 k23 n x5 x6 x7 w) := by
  intro n
  induction n with
  | zero =>
    intro x5 x6 x7 w
    exact r_none
  | succ n ih =>
    intro x5 x6 x7 w
    rw [f_X6_bestOf_b44]
    refine r_iload dX6_bestOf_44 7 rfl ?_
    refine r_iconst (v := 3) dX6_bestOf_46 (by decide) ?_
    refine r_icmp_ge (tgt := 122) dX6_bestOf_47 (by decide) (fun _ => ?_) (fun _ => ?_)
    · refine r_lv [0, 1, 2, 3, 4, 5, 6] rfl ?_
      exact wk_X6_bestOf_b122 Z w x1 x2 x3 x4 x5 x6 k23 hk23
    · refine r_iload dX6_bestOf_50 5 rfl ?_
      refine r_if_eq (tgt := 122) dX6_bestOf_52 (by decide) (fun _ => ?_) (fun _ => ?_)
      · refine r_lv [0, 1, 2, 3, 4, 5, 6] rfl ?_
        exact wk_X6_bestOf_b122 Z w x1 x2 x3 x4 x5 x6 k23 hk23
      · refine r_iload_n dX6_bestOf_55 1 rfl ?_
        refine r_iload dX6_bestOf_56 7 rfl ?_
        refine r_ishr dX6_bestOf_58 ?_
        refine r_iconst (v := 1) dX6_bestOf_59 (by decide) ?_
        refine r_iand dX6_bestOf_60 ?_
        refine r_iconst (v := 1) dX6_bestOf_61 (by decide) ?_
        refine r_icmp_ne (tgt := 116) dX6_bestOf_62 (by decide) (fun _ => ?_) (fun _ => ?_)
        · exact wk_X6_bestOf_b116 Z w x1 x2 x3 x4 x5 x6 x7 _ (ih)
        · refine r_iload dX6_bestOf_65 4 rfl ?_
          refine r_aload_n dX6_bestOf_67 0 rfl ?_
          refine r_get FX6 11 (Nat.le_of_ble_eq_true rfl) kf_X6_25 0 (qM_0 Z w) rfl dX6_bestOf_68 ?_
          refine r_iload dX6_bestOf_71 7 rfl ?_
          refine r_iald 6 (qM_6 Z w) rfl dX6_bestOf_73 ?_
          refine r_aload_n dX6_bestOf_74 0 rfl ?_
          refine r_get FX6 0 (Nat.le_of_ble_eq_true rfl) kf_X6_7 0 (qM_0 Z w) rfl dX6_bestOf_75 ?_
          refine r_iconst (v := 2) dX6_bestOf_78 (by decide) ?_
          refine r_iload dX6_bestOf_79 7 rfl ?_
          refine r_iadd dX6_bestOf_81 ?_
          refine r_iald 1 (qM_1 Z w) rfl dX6_bestOf_82 ?_
          refine r_callS_I [Value.int x4, Value.int (w.1 6 (x7).toNatClampNeg), Value.int (w.1 1 ((2 : Int32) + x7).toNatClampNeg)] cfX6_awayOf (m_X6_awayOf Z w x4 (w.1 6 (x7).toNatClampNeg) (w.1 1 ((2 : Int32) + x7).toNatClampNeg)) km_X6_152 ⟨rfl, rfl, (Nat.le_of_ble_eq_true rfl), (Nat.le_of_ble_eq_true rfl)⟩ rfl rfl (Nat.le_of_ble_eq_true rfl) dX6_bestOf_83 (fun v2 => ?_)
          refine r_istore (lv' := [(0, Value.ref (aC Z 0)), (1, Value.int x1), (2, Value.int x2), (3, Value.int x3), (4, Value.int x4), (5, Value.int x5), (6, Value.int x6), (7, Value.int x7), (8, Value.int v2)]) dX6_bestOf_86 (Nat.le_of_ble_eq_true rfl) [1, 2, 3, 4, 5, 6, 7, 8, 0] rfl ?_
          refine r_iload dX6_bestOf_88 8 rfl ?_
          refine r_aload_n dX6_bestOf_90 0 rfl ?_
          refine r_get FX6 0 (Nat.le_of_ble_eq_true rfl) kf_X6_7 0 (qM_0 Z w) rfl dX6_bestOf_91 ?_
          refine r_iconst (v := 5) dX6_bestOf_94 (by decide) ?_
          refine r_iald 1 (qM_1 Z w) rfl dX6_bestOf_95 ?_
          refine r_icmp_gt (tgt := 103) dX6_bestOf_96 (by decide) (fun _ => ?_) (fun _ => ?_)
          · refine r_iconst (v := 0) dX6_bestOf_103 (by decide) ?_
            refine r_lv [0, 1, 2, 3, 4, 6, 7, 8] rfl ?_
            exact wk_X6_bestOf_b104 Z w x1 x2 x3 x4 x6 x7 v2 (0 : Int32) _ (ih)
          · refine r_iconst (v := 1) dX6_bestOf_99 (by decide) ?_
            refine r_goto (tgt := 104) dX6_bestOf_100 (by decide) ?_
            refine r_lv [0, 1, 2, 3, 4, 6, 7, 8] rfl ?_
            exact wk_X6_bestOf_b104 Z w x1 x2 x3 x4 x6 x7 v2 (1 : Int32) _ (ih)
def f_X6_bestOf_b23 (x1 : Int32) : Nat → Int32 → Int32 → Int32 → Wd → Option (Int32 × Wd)
  | 0, _, _, _, _ => none
  | n + 1, x2, x3, x4, w =>
  if inb (8 : Int32) 395 = true then (if (w.1 1 ((8 : Int32)).toNatClampNeg) < x4 then (some (x2, w)) else (f_X6_bestOf_b44 x1 x2 x3 x4 (f_X6_bestOf_b23 x1 n) FUEL (1 : Int32) (0 : Int32) (0 : Int32) w)) else none
set_option maxRecDepth 100000 in
set_option maxHeartbeats 4000000 in
theorem wk_X6_bestOf_b23 (Z : CSp) (x1 : Int32)  : ∀ (n : Nat) (x2 : Int32) (x3 : Int32) (x4 : Int32) (w : Wd), Wm (EM Z) MX6_bestOf oIw w 23 [(0, Value.ref (aC Z 0)), (1, Value.int x1), (2, Value.int x2), (3, Value.int x3), (4, Value.int x4)] [] (f_X6_bestOf_b23 x1 n x2 x3 x4 w) := by
  intro n
  induction n with
  | zero =>
    intro x2 x3 x4 w
    exact r_none
  | succ n ih =>
    intro x2 x3 x4 w
    rw [f_X6_bestOf_b23]
    refine r_iload dX6_bestOf_23 4 rfl ?_
    refine r_aload_n dX6_bestOf_25 0 rfl ?_
    refine r_get FX6 0 (Nat.le_of_ble_eq_true rfl) kf_X6_7 0 (qM_0 Z w) rfl dX6_bestOf_26 ?_
    refine r_bipush (v := 8) dX6_bestOf_29 (by decide) ?_
    refine r_iald 1 (qM_1 Z w) rfl dX6_bestOf_31 ?_
    refine r_icmp_gt (tgt := 181) dX6_bestOf_32 (by decide) (fun _ => ?_) (fun _ => ?_)
    · refine r_iload_n dX6_bestOf_181 2 rfl ?_
      exact r_iretw rfl dX6_bestOf_182
    · refine r_iconst (v := 1) dX6_bestOf_35 (by decide) ?_
      refine r_istore (lv' := [(0, Value.ref (aC Z 0)), (1, Value.int x1), (2, Value.int x2), (3, Value.int x3), (4, Value.int x4), (5, Value.int (1 : Int32))]) dX6_bestOf_36 (Nat.le_of_ble_eq_true rfl) [1, 2, 3, 4, 5, 0] rfl ?_
      refine r_iconst (v := 0) dX6_bestOf_38 (by decide) ?_
      refine r_istore (lv' := [(0, Value.ref (aC Z 0)), (1, Value.int x1), (2, Value.int x2), (3, Value.int x3), (4, Value.int x4), (5, Value.int (1 : Int32)), (6, Value.int (0 : Int32))]) dX6_bestOf_39 (Nat.le_of_ble_eq_true rfl) [1, 2, 3, 4, 5, 6, 0] rfl ?_
      refine r_iconst (v := 0) dX6_bestOf_41 (by decide) ?_
      refine r_istore (lv' := [(0, Value.ref (aC Z 0)), (1, Value.int x1), (2, Value.int x2), (3, Value.int x3), (4, Value.int x4), (5, Value.int (1 : Int32)), (6, Value.int (0 : Int32)), (7, Value.int (0 : Int32))]) dX6_bestOf_42 (Nat.le_of_ble_eq_true rfl) [1, 2, 3, 4, 5, 6, 7, 0] rfl ?_
      exact wk_X6_bestOf_b44 Z x1 x2 x3 x4 _ (ih) FUEL (1 : Int32) (0 : Int32) (0 : Int32) w
def f_X6_bestOf (x1 : Int32) (w : Wd) : Option (Int32 × Wd) :=
  wput w 0 12 (-10001 : Int32) (fun w1 => wput w1 0 13 (-10001 : Int32) (fun w2 => f_X6_bestOf_b23 x1 FUEL (-10001 : Int32) (0 : Int32) (0 : Int32) w2))
set_option maxRecDepth 100000 in
set_option maxHeartbeats 4000000 in
theorem wk_X6_bestOf (Z : CSp) (w : Wd) (x1 : Int32)  : Wm (EM Z) MX6_bestOf oIw w 0 [(0, Value.ref (aC Z 0)), (1, Value.int x1)] [] (f_X6_bestOf x1 w) := by
  unfold f_X6_bestOf
  refine r_sipush (v := -10001) dX6_bestOf_0 (by decide) ?_
  refine r_istore_n (lv' := [(0, Value.ref (aC Z 0)), (1, Value.int x1), (2, Value.int (-10001 : Int32))]) dX6_bestOf_3 (Nat.le_of_ble_eq_true rfl) [1, 2, 0] rfl ?_
  refine r_iconst (v := 0) dX6_bestOf_4 (by decide) ?_
  refine r_istore_n (lv' := [(0, Value.ref (aC Z 0)), (1, Value.int x1), (2, Value.int (-10001 : Int32)), (3, Value.int (0 : Int32))]) dX6_bestOf_5 (Nat.le_of_ble_eq_true rfl) [1, 2, 3, 0] rfl ?_
  refine r_aload_n dX6_bestOf_6 0 rfl ?_
  refine r_sipush (v := -10001) dX6_bestOf_7 (by decide) ?_
  refine r_puti FX6 tyX6_ok nmX6 kf_X6_155 (qM_0 Z w) ⟨(Nat.le_of_ble_eq_true rfl), (Nat.le_of_ble_eq_true rfl), rfl⟩ (by decide) (uM_0_12 Z w (-10001 : Int32)) dX6_bestOf_10 (fun w1 => ?_)
  refine r_aload_n dX6_bestOf_13 0 rfl ?_
  refine r_sipush (v := -10001) dX6_bestOf_14 (by decide) ?_
  refine r_puti FX6 tyX6_ok nmX6 kf_X6_158 (qM_0 Z w1) ⟨(Nat.le_of_ble_eq_true rfl), (Nat.le_of_ble_eq_true rfl), rfl⟩ (by decide) (uM_0_13 Z w1 (-10001 : Int32)) dX6_bestOf_17 (fun w2 => ?_)
  refine r_iconst (v := 0) dX6_bestOf_20 (by decide) ?_
  refine r_istore (lv' := [(0, Value.ref (aC Z 0)), (1, Value.int x1), (2, Value.int (-10001 : Int32)), (3, Value.int (0 : Int32)), (4, Value.int (0 : Int32))]) dX6_bestOf_21 (Nat.le_of_ble_eq_true rfl) [1, 2, 3, 4, 0] rfl ?_
  exact wk_X6_bestOf_b23 Z x1 FUEL (-10001 : Int32) (0 : Int32) (0 : Int32) w2
theorem m_X6_bestOf (Z : CSp) (w : Wd) (x1 : Int32) : MetM (EM Z) yX6_bestOf cX6_bestOf 9 (some .int) { frames := 1, cells := 0, slots := 0, locals := 23 } oIw [Value.ref (aC Z 0), Value.int x1] w (f_X6_bestOf x1 w) := MetM_of (plainFor_of_name (by decide)) (Nat.le_of_ble_eq_true rfl) (wk_X6_bestOf Z w x1)
abbrev MX6_strengthOf : Mt := (cX6_strengthOf, RX6, 2, some .float, { frames := 2, cells := 0, slots := 0, locals := 42 })
def f_X6_strengthOf (x1 : Int32) (w : Wd) : Option (UInt32) :=
  (f_X6_sumOf x1 w).bind (fun v1 => if nn32 (FP.fdiv (FP.i2f v1) FP.fconst2) = true then (some (FP.fdiv (FP.i2f v1) FP.fconst2)) else none)
set_option maxRecDepth 100000 in
set_option maxHeartbeats 4000000 in
theorem wk_X6_strengthOf (Z : CSp) (w : Wd) (x1 : Int32)  : Wm (EM Z) MX6_strengthOf (oF w) w 0 [(0, Value.ref (aC Z 0)), (1, Value.int x1)] [] (f_X6_strengthOf x1 w) := by
  unfold f_X6_strengthOf
  refine r_aload_n dX6_strengthOf_0 0 rfl ?_
  refine r_iload_n dX6_strengthOf_1 1 rfl ?_
  refine r_callV_I [Value.int x1] cfX6_sumOf (m_X6_sumOf Z w x1) km_X6_127 ⟨rfl, rfl, (Nat.le_of_ble_eq_true rfl), (Nat.le_of_ble_eq_true rfl)⟩ rfl rfl 0 (qM_0 Z w) rfl rfl (Nat.le_of_ble_eq_true rfl) dX6_strengthOf_2 (fun v1 => ?_)
  refine r_i2f dX6_strengthOf_5 ?_
  refine r_fconst2 dX6_strengthOf_6 ?_
  refine r_fdiv dX6_strengthOf_7 ?_
  exact r_fret rfl dX6_strengthOf_8
theorem m_X6_strengthOf (Z : CSp) (w : Wd) (x1 : Int32) : MetM (EM Z) yX6_strengthOf cX6_strengthOf 2 (some .float) { frames := 2, cells := 0, slots := 0, locals := 42 } (oF w) [Value.ref (aC Z 0), Value.int x1] w (f_X6_strengthOf x1 w) := MetM_of (plainFor_of_name (by decide)) (Nat.le_of_ble_eq_true rfl) (wk_X6_strengthOf Z w x1)
abbrev MX6_bits : Mt := (cX6_bits, RX6, 7, some .int, { frames := 3, cells := 0, slots := 0, locals := 69 })
def f_X6_bits_b60 (s0 : UInt32) (w : Wd) : Option (Int32 × Wd) :=
  (f_Jxf58ca_floatToIntBits_5c35a s0).bind (fun v2 => some (v2, w))
set_option maxRecDepth 100000 in
set_option maxHeartbeats 4000000 in
theorem wk_X6_bits_b60 (Z : CSp) (w : Wd) (s0 : UInt32)  : Wm (EM Z) MX6_bits oIw w 60 [] [Value.float s0] (f_X6_bits_b60 s0 w) := by
  unfold f_X6_bits_b60
  refine r_callS_I [Value.float s0] cfJxf58ca_floatToIntBits_5c35a (m_Jxf58ca_floatToIntBits_5c35a Z w s0) km_X6_146 ⟨rfl, rfl, (Nat.le_of_ble_eq_true rfl), (Nat.le_of_ble_eq_true rfl)⟩ rfl rfl (Nat.le_of_ble_eq_true rfl) dX6_bits_60 (fun v2 => ?_)
  exact r_iretw rfl dX6_bits_63
def f_X6_bits_b22 (w : Wd) : Option (Int32 × Wd) :=
  (f_X6_bad w).bind (fun z2 => some (z2.1, z2.2))
set_option maxRecDepth 100000 in
set_option maxHeartbeats 4000000 in
theorem wk_X6_bits_b22 (Z : CSp) (w : Wd)   : Wm (EM Z) MX6_bits oIw w 22 [(0, Value.ref (aC Z 0))] [] (f_X6_bits_b22 w) := by
  unfold f_X6_bits_b22
  refine r_aload_n dX6_bits_22 0 rfl ?_
  refine r_callV_Iw [] cfX6_bad (m_X6_bad Z w) km_X6_54 ⟨rfl, rfl, (Nat.le_of_ble_eq_true rfl), (Nat.le_of_ble_eq_true rfl)⟩ rfl rfl 0 (qM_0 Z w) rfl rfl (Nat.le_of_ble_eq_true rfl) dX6_bits_23 (fun z2 => ?_)
  exact r_iretw rfl dX6_bits_26
def f_X6_bits (x1 : Int32) (x2 : Int32) (x3 : Int32) (x4 : Int32) (x5 : Int32) (w : Wd) : Option (Int32 × Wd) :=
  (f_X6_isRate x1 x2 x3 x4 w).bind (fun v1 => if v1 = 0 then (f_X6_bits_b22 w) else ((f_X6_in x5 (0 : Int32) (1 : Int32)).bind (fun v2 => if v2 = 0 then (f_X6_bits_b22 w) else ((f_X6_cellPlace x1 x2 x3).bind (fun v3 => jlet (v3 + ((4 : Int32) * x4)) (fun y4 => if x5 = 0 then ((f_X6_strengthOf y4 w).bind (fun v6 => f_X6_bits_b60 v6 w)) else ((f_X6_phaseOf y4 w).bind (fun v5 => f_X6_bits_b60 v5 w))))))))
set_option maxRecDepth 100000 in
set_option maxHeartbeats 4000000 in
theorem wk_X6_bits (Z : CSp) (w : Wd) (x1 : Int32) (x2 : Int32) (x3 : Int32) (x4 : Int32) (x5 : Int32)  : Wm (EM Z) MX6_bits oIw w 0 [(0, Value.ref (aC Z 0)), (1, Value.int x1), (2, Value.int x2), (3, Value.int x3), (4, Value.int x4), (5, Value.int x5)] [] (f_X6_bits x1 x2 x3 x4 x5 w) := by
  unfold f_X6_bits
  refine r_aload_n dX6_bits_0 0 rfl ?_
  refine r_iload_n dX6_bits_1 1 rfl ?_
  refine r_iload_n dX6_bits_2 2 rfl ?_
  refine r_iload_n dX6_bits_3 3 rfl ?_
  refine r_iload dX6_bits_4 4 rfl ?_
  refine r_callV_I [Value.int x1, Value.int x2, Value.int x3, Value.int x4] cfX6_isRate (m_X6_isRate Z w x1 x2 x3 x4) km_X6_136 ⟨rfl, rfl, (Nat.le_of_ble_eq_true rfl), (Nat.le_of_ble_eq_true rfl)⟩ rfl rfl 0 (qM_0 Z w) rfl rfl (Nat.le_of_ble_eq_true rfl) dX6_bits_6 (fun v1 => ?_)
  refine r_if_eq (tgt := 22) dX6_bits_9 (by decide) (fun _ => ?_) (fun _ => ?_)
  · refine r_lv [0] rfl ?_
    exact wk_X6_bits_b22 Z w
  · refine r_iload dX6_bits_12 5 rfl ?_
    refine r_iconst (v := 0) dX6_bits_14 (by decide) ?_
    refine r_iconst (v := 1) dX6_bits_15 (by decide) ?_
    refine r_callS_I [Value.int x5, Value.int (0 : Int32), Value.int (1 : Int32)] cfX6_in (m_X6_in Z w x5 (0 : Int32) (1 : Int32)) km_X6_60 ⟨rfl, rfl, (Nat.le_of_ble_eq_true rfl), (Nat.le_of_ble_eq_true rfl)⟩ rfl rfl (Nat.le_of_ble_eq_true rfl) dX6_bits_16 (fun v2 => ?_)
    refine r_if_ne (tgt := 27) dX6_bits_19 (by decide) (fun _ => ?_) (fun _ => ?_)
    · refine r_iload_n dX6_bits_27 1 rfl ?_
      refine r_iload_n dX6_bits_28 2 rfl ?_
      refine r_iload_n dX6_bits_29 3 rfl ?_
      refine r_callS_I [Value.int x1, Value.int x2, Value.int x3] cfX6_cellPlace (m_X6_cellPlace Z w x1 x2 x3) km_X6_72 ⟨rfl, rfl, (Nat.le_of_ble_eq_true rfl), (Nat.le_of_ble_eq_true rfl)⟩ rfl rfl (Nat.le_of_ble_eq_true rfl) dX6_bits_30 (fun v3 => ?_)
      refine r_iconst (v := 4) dX6_bits_33 (by decide) ?_
      refine r_iload dX6_bits_34 4 rfl ?_
      refine r_imul dX6_bits_36 ?_
      refine r_iadd dX6_bits_37 ?_
      refine r_leti (fun y4 => ?_)
      refine r_istore (lv' := [(0, Value.ref (aC Z 0)), (1, Value.int x1), (2, Value.int x2), (3, Value.int x3), (4, Value.int x4), (5, Value.int x5), (6, Value.int y4)]) dX6_bits_38 (Nat.le_of_ble_eq_true rfl) [1, 2, 3, 4, 5, 6, 0] rfl ?_
      refine r_iload dX6_bits_40 5 rfl ?_
      refine r_if_ne (tgt := 54) dX6_bits_42 (by decide) (fun _ => ?_) (fun _ => ?_)
      · refine r_aload_n dX6_bits_54 0 rfl ?_
        refine r_iload dX6_bits_55 6 rfl ?_
        refine r_callV_F [Value.int y4] cfX6_phaseOf (m_X6_phaseOf Z w y4) km_X6_131 ⟨rfl, rfl, (Nat.le_of_ble_eq_true rfl), (Nat.le_of_ble_eq_true rfl)⟩ rfl rfl 0 (qM_0 Z w) rfl rfl (Nat.le_of_ble_eq_true rfl) dX6_bits_57 (fun v5 => ?_)
        refine r_lv [] rfl ?_
        exact wk_X6_bits_b60 Z w v5
      · refine r_aload_n dX6_bits_45 0 rfl ?_
        refine r_iload dX6_bits_46 6 rfl ?_
        refine r_callV_F [Value.int y4] cfX6_strengthOf (m_X6_strengthOf Z w y4) km_X6_143 ⟨rfl, rfl, (Nat.le_of_ble_eq_true rfl), (Nat.le_of_ble_eq_true rfl)⟩ rfl rfl 0 (qM_0 Z w) rfl rfl (Nat.le_of_ble_eq_true rfl) dX6_bits_48 (fun v6 => ?_)
        refine r_goto (tgt := 60) dX6_bits_51 (by decide) ?_
        refine r_lv [] rfl ?_
        exact wk_X6_bits_b60 Z w v6
    · refine r_lv [0] rfl ?_
      exact wk_X6_bits_b22 Z w
theorem m_X6_bits (Z : CSp) (w : Wd) (x1 : Int32) (x2 : Int32) (x3 : Int32) (x4 : Int32) (x5 : Int32) : MetM (EM Z) yX6_bits cX6_bits 7 (some .int) { frames := 3, cells := 0, slots := 0, locals := 69 } oIw [Value.ref (aC Z 0), Value.int x1, Value.int x2, Value.int x3, Value.int x4, Value.int x5] w (f_X6_bits x1 x2 x3 x4 x5 w) := MetM_of (plainFor_of_name (by decide)) (Nat.le_of_ble_eq_true rfl) (wk_X6_bits Z w x1 x2 x3 x4 x5)
abbrev MX6_isAt : Mt := (cX6_isAt, RX6, 3, some .boolean, { frames := 1, cells := 0, slots := 0, locals := 22 })
def f_X6_isAt_b33 (s0 : Int32) (w : Wd) : Option (Int32) :=
  if zb s0 = true then some s0 else none
set_option maxRecDepth 100000 in
set_option maxHeartbeats 4000000 in
theorem wk_X6_isAt_b33 (Z : CSp) (w : Wd) (s0 : Int32)  : Wm (EM Z) MX6_isAt (oI w) w 33 [] [Value.int s0] (f_X6_isAt_b33 s0 w) := by
  unfold f_X6_isAt_b33
  exact r_zret rfl dX6_isAt_33
def f_X6_isAt_b32 (w : Wd) : Option (Int32) :=
  f_X6_isAt_b33 (0 : Int32) w
set_option maxRecDepth 100000 in
set_option maxHeartbeats 4000000 in
theorem wk_X6_isAt_b32 (Z : CSp) (w : Wd)   : Wm (EM Z) MX6_isAt (oI w) w 32 [] [] (f_X6_isAt_b32 w) := by
  unfold f_X6_isAt_b32
  refine r_iconst (v := 0) dX6_isAt_32 (by decide) ?_
  exact wk_X6_isAt_b33 Z w (0 : Int32)
def f_X6_isAt (x1 : Int32) (x2 : Int32) (w : Wd) : Option (Int32) :=
  if (w.1 0 6) ≤ (w.1 0 24) then (f_X6_isAt_b32 w) else (if inb (w.1 0 24) 150 = true then ((f_X6_in (w.1 5 (w.1 0 24).toNatClampNeg) x1 x2).bind (fun v1 => if v1 = 0 then (f_X6_isAt_b32 w) else (f_X6_isAt_b33 (1 : Int32) w))) else none)
set_option maxRecDepth 100000 in
set_option maxHeartbeats 4000000 in
theorem wk_X6_isAt (Z : CSp) (w : Wd) (x1 : Int32) (x2 : Int32)  : Wm (EM Z) MX6_isAt (oI w) w 0 [(0, Value.ref (aC Z 0)), (1, Value.int x1), (2, Value.int x2)] [] (f_X6_isAt x1 x2 w) := by
  unfold f_X6_isAt
  refine r_aload_n dX6_isAt_0 0 rfl ?_
  refine r_get FX6 24 (Nat.le_of_ble_eq_true rfl) kf_X6_230 0 (qM_0 Z w) rfl dX6_isAt_1 ?_
  refine r_aload_n dX6_isAt_4 0 rfl ?_
  refine r_get FX6 6 (Nat.le_of_ble_eq_true rfl) kf_X6_227 0 (qM_0 Z w) rfl dX6_isAt_5 ?_
  refine r_icmp_ge (tgt := 32) dX6_isAt_8 (by decide) (fun _ => ?_) (fun _ => ?_)
  · refine r_lv [] rfl ?_
    exact wk_X6_isAt_b32 Z w
  · refine r_aload_n dX6_isAt_11 0 rfl ?_
    refine r_get FX6 5 (Nat.le_of_ble_eq_true rfl) kf_X6_22 0 (qM_0 Z w) rfl dX6_isAt_12 ?_
    refine r_aload_n dX6_isAt_15 0 rfl ?_
    refine r_get FX6 24 (Nat.le_of_ble_eq_true rfl) kf_X6_230 0 (qM_0 Z w) rfl dX6_isAt_16 ?_
    refine r_iald 5 (qM_5 Z w) rfl dX6_isAt_19 ?_
    refine r_iload_n dX6_isAt_20 1 rfl ?_
    refine r_iload_n dX6_isAt_21 2 rfl ?_
    refine r_callS_I [Value.int (w.1 5 (w.1 0 24).toNatClampNeg), Value.int x1, Value.int x2] cfX6_in (m_X6_in Z w (w.1 5 (w.1 0 24).toNatClampNeg) x1 x2) km_X6_60 ⟨rfl, rfl, (Nat.le_of_ble_eq_true rfl), (Nat.le_of_ble_eq_true rfl)⟩ rfl rfl (Nat.le_of_ble_eq_true rfl) dX6_isAt_22 (fun v1 => ?_)
    refine r_if_eq (tgt := 32) dX6_isAt_25 (by decide) (fun _ => ?_) (fun _ => ?_)
    · refine r_lv [] rfl ?_
      exact wk_X6_isAt_b32 Z w
    · refine r_iconst (v := 1) dX6_isAt_28 (by decide) ?_
      refine r_goto (tgt := 33) dX6_isAt_29 (by decide) ?_
      refine r_lv [] rfl ?_
      exact wk_X6_isAt_b33 Z w (1 : Int32)
theorem m_X6_isAt (Z : CSp) (w : Wd) (x1 : Int32) (x2 : Int32) : MetM (EM Z) yX6_isAt cX6_isAt 3 (some .boolean) { frames := 1, cells := 0, slots := 0, locals := 22 } (oI w) [Value.ref (aC Z 0), Value.int x1, Value.int x2] w (f_X6_isAt x1 x2 w) := MetM_of (plainFor_of_name (by decide)) (Nat.le_of_ble_eq_true rfl) (wk_X6_isAt Z w x1 x2)
abbrev MX6_blanks : Mt := (cX6_blanks, RX6, 1, none, { frames := 2, cells := 0, slots := 0, locals := 44 })
def f_X6_blanks_b0  : Nat → Wd → Option (Wd)
  | 0, _ => none
  | n + 1, w =>
  (f_X6_isAt (32 : Int32) (32 : Int32) w).bind (fun v3 => if v3 = 0 then (some w) else (wput w 0 24 ((w.1 0 24) + (1 : Int32)) (fun w4 => f_X6_blanks_b0 n w4)))
set_option maxRecDepth 100000 in
set_option maxHeartbeats 4000000 in
theorem wk_X6_blanks_b0 (Z : CSp)   : ∀ (n : Nat)  (w : Wd), Wm (EM Z) MX6_blanks oVw w 0 [(0, Value.ref (aC Z 0))] [] (f_X6_blanks_b0  n w) := by
  intro n
  induction n with
  | zero =>
    intro w
    exact r_none
  | succ n ih =>
    intro w
    rw [f_X6_blanks_b0]
    refine r_aload_n dX6_blanks_0 0 rfl ?_
    refine r_bipush (v := 32) dX6_blanks_1 (by decide) ?_
    refine r_bipush (v := 32) dX6_blanks_3 (by decide) ?_
    refine r_callV_I [Value.int (32 : Int32), Value.int (32 : Int32)] cfX6_isAt (m_X6_isAt Z w (32 : Int32) (32 : Int32)) km_X6_233 ⟨rfl, rfl, (Nat.le_of_ble_eq_true rfl), (Nat.le_of_ble_eq_true rfl)⟩ rfl rfl 0 (qM_0 Z w) rfl rfl (Nat.le_of_ble_eq_true rfl) dX6_blanks_5 (fun v3 => ?_)
    refine r_if_eq (tgt := 24) dX6_blanks_8 (by decide) (fun _ => ?_) (fun _ => ?_)
    · exact r_vret rfl dX6_blanks_24
    · refine r_aload_n dX6_blanks_11 0 rfl ?_
      refine r_dup dX6_blanks_12 rfl ?_
      refine r_get FX6 24 (Nat.le_of_ble_eq_true rfl) kf_X6_230 0 (qM_0 Z w) rfl dX6_blanks_13 ?_
      refine r_iconst (v := 1) dX6_blanks_16 (by decide) ?_
      refine r_iadd dX6_blanks_17 ?_
      refine r_puti FX6 tyX6_ok nmX6 kf_X6_230 (qM_0 Z w) ⟨(Nat.le_of_ble_eq_true rfl), (Nat.le_of_ble_eq_true rfl), rfl⟩ (by decide) (uM_0_24 Z w ((w.1 0 24) + (1 : Int32))) dX6_blanks_18 (fun w4 => ?_)
      refine r_goto (tgt := 0) dX6_blanks_21 (by decide) ?_
      exact ih w4
def f_X6_blanks (w : Wd) : Option (Wd) :=
  f_X6_blanks_b0 FUEL w
set_option maxRecDepth 100000 in
set_option maxHeartbeats 4000000 in
theorem wk_X6_blanks (Z : CSp) (w : Wd)   : Wm (EM Z) MX6_blanks oVw w 0 [(0, Value.ref (aC Z 0))] [] (f_X6_blanks w) := by
  unfold f_X6_blanks
  exact wk_X6_blanks_b0 Z FUEL w
theorem m_X6_blanks (Z : CSp) (w : Wd)  : MetM (EM Z) yX6_blanks cX6_blanks 1 none { frames := 2, cells := 0, slots := 0, locals := 44 } oVw [Value.ref (aC Z 0)] w (f_X6_blanks w) := MetM_of (plainFor_of_name (by decide)) (Nat.le_of_ble_eq_true rfl) (wk_X6_blanks Z w )
abbrev MX6_glowOf : Mt := (cX6_glowOf, RX6, 2, some .float, { frames := 3, cells := 0, slots := 0, locals := 63 })
def f_X6_glowOf (x1 : Int32) (w : Wd) : Option (UInt32) :=
  (f_X6_strengthOf x1 w).bind (fun v1 => (f_X6_strengthOf (x1 + (4 : Int32)) w).bind (fun v2 => if nn32 (FP.fadd v1 v2) = true then ((f_X6_strengthOf (x1 + (8 : Int32)) w).bind (fun v3 => if nn32 (FP.fadd (FP.fadd v1 v2) v3) = true then (some (FP.fadd (FP.fadd v1 v2) v3)) else none)) else none))
set_option maxRecDepth 100000 in
set_option maxHeartbeats 4000000 in
theorem wk_X6_glowOf (Z : CSp) (w : Wd) (x1 : Int32)  : Wm (EM Z) MX6_glowOf (oF w) w 0 [(0, Value.ref (aC Z 0)), (1, Value.int x1)] [] (f_X6_glowOf x1 w) := by
  unfold f_X6_glowOf
  refine r_aload_n dX6_glowOf_0 0 rfl ?_
  refine r_iload_n dX6_glowOf_1 1 rfl ?_
  refine r_callV_F [Value.int x1] cfX6_strengthOf (m_X6_strengthOf Z w x1) km_X6_143 ⟨rfl, rfl, (Nat.le_of_ble_eq_true rfl), (Nat.le_of_ble_eq_true rfl)⟩ rfl rfl 0 (qM_0 Z w) rfl rfl (Nat.le_of_ble_eq_true rfl) dX6_glowOf_2 (fun v1 => ?_)
  refine r_aload_n dX6_glowOf_5 0 rfl ?_
  refine r_iload_n dX6_glowOf_6 1 rfl ?_
  refine r_iconst (v := 4) dX6_glowOf_7 (by decide) ?_
  refine r_iadd dX6_glowOf_8 ?_
  refine r_callV_F [Value.int (x1 + (4 : Int32))] cfX6_strengthOf (m_X6_strengthOf Z w (x1 + (4 : Int32))) km_X6_143 ⟨rfl, rfl, (Nat.le_of_ble_eq_true rfl), (Nat.le_of_ble_eq_true rfl)⟩ rfl rfl 0 (qM_0 Z w) rfl rfl (Nat.le_of_ble_eq_true rfl) dX6_glowOf_9 (fun v2 => ?_)
  refine r_fadd dX6_glowOf_12 ?_
  refine r_aload_n dX6_glowOf_13 0 rfl ?_
  refine r_iload_n dX6_glowOf_14 1 rfl ?_
  refine r_bipush (v := 8) dX6_glowOf_15 (by decide) ?_
  refine r_iadd dX6_glowOf_17 ?_
  refine r_callV_F [Value.int (x1 + (8 : Int32))] cfX6_strengthOf (m_X6_strengthOf Z w (x1 + (8 : Int32))) km_X6_143 ⟨rfl, rfl, (Nat.le_of_ble_eq_true rfl), (Nat.le_of_ble_eq_true rfl)⟩ rfl rfl 0 (qM_0 Z w) rfl rfl (Nat.le_of_ble_eq_true rfl) dX6_glowOf_18 (fun v3 => ?_)
  refine r_fadd dX6_glowOf_21 ?_
  exact r_fret rfl dX6_glowOf_22
theorem m_X6_glowOf (Z : CSp) (w : Wd) (x1 : Int32) : MetM (EM Z) yX6_glowOf cX6_glowOf 2 (some .float) { frames := 3, cells := 0, slots := 0, locals := 63 } (oF w) [Value.ref (aC Z 0), Value.int x1] w (f_X6_glowOf x1 w) := MetM_of (plainFor_of_name (by decide)) (Nat.le_of_ble_eq_true rfl) (wk_X6_glowOf Z w x1)
abbrev MX6_isBright : Mt := (cX6_isBright, RX6, 4, some .boolean, { frames := 0, cells := 0, slots := 0, locals := 0 })
def f_X6_isBright_b37 (x1 : Int32) (x3 : Int32) (s0 : Int32) (k4 : Int32 → Int32 → Option (Int32)) (w : Wd) : Option (Int32) :=
  k4 s0 (x3 + 1)
set_option maxRecDepth 100000 in
set_option maxHeartbeats 4000000 in
theorem wk_X6_isBright_b37 (Z : CSp) (w : Wd) (x1 : Int32) (x3 : Int32) (s0 : Int32) (k4 : Int32 → Int32 → Option (Int32)) (hk4 : ∀ (x2 : Int32) (x3 : Int32), Wm (EM Z) MX6_isBright (oI w) w 4 [(0, Value.ref (aC Z 0)), (1, Value.int x1), (2, Value.int x2), (3, Value.int x3)] [] (k4 x2 x3)) : Wm (EM Z) MX6_isBright (oI w) w 37 [(0, Value.ref (aC Z 0)), (1, Value.int x1), (3, Value.int x3)] [Value.int s0] (f_X6_isBright_b37 x1 x3 s0 k4 w) := by
  unfold f_X6_isBright_b37
  refine r_istore_n (lv' := [(0, Value.ref (aC Z 0)), (1, Value.int x1), (2, Value.int s0), (3, Value.int x3)]) dX6_isBright_37 (Nat.le_of_ble_eq_true rfl) [1, 2, 0, 3] rfl ?_
  refine r_iinc (lv' := [(0, Value.ref (aC Z 0)), (1, Value.int x1), (2, Value.int s0), (3, Value.int (x3 + 1))]) dX6_isBright_38 3 rfl (by rfl) (Nat.le_of_ble_eq_true rfl) [1, 2, 3, 0] rfl ?_
  refine r_goto (tgt := 4) dX6_isBright_41 (by decide) ?_
  exact hk4 s0 (x3 + 1)
def f_X6_isBright_b32 (x1 : Int32) (x3 : Int32) (k4 : Int32 → Int32 → Option (Int32)) (w : Wd) : Option (Int32) :=
  f_X6_isBright_b37 x1 x3 (1 : Int32) k4 w
set_option maxRecDepth 100000 in
set_option maxHeartbeats 4000000 in
theorem wk_X6_isBright_b32 (Z : CSp) (w : Wd) (x1 : Int32) (x3 : Int32) (k4 : Int32 → Int32 → Option (Int32)) (hk4 : ∀ (x2 : Int32) (x3 : Int32), Wm (EM Z) MX6_isBright (oI w) w 4 [(0, Value.ref (aC Z 0)), (1, Value.int x1), (2, Value.int x2), (3, Value.int x3)] [] (k4 x2 x3)) : Wm (EM Z) MX6_isBright (oI w) w 32 [(0, Value.ref (aC Z 0)), (1, Value.int x1), (3, Value.int x3)] [] (f_X6_isBright_b32 x1 x3 k4 w) := by
  unfold f_X6_isBright_b32
  refine r_iconst (v := 1) dX6_isBright_32 (by decide) ?_
  refine r_goto (tgt := 37) dX6_isBright_33 (by decide) ?_
  exact wk_X6_isBright_b37 Z w x1 x3 (1 : Int32) k4 hk4
def f_X6_isBright_b4 (x1 : Int32) (w : Wd) : Nat → Int32 → Int32 → Option (Int32)
  | 0, _, _ => none
  | n + 1, x2, x3 =>
  if (12 : Int32) ≤ x3 then (if zb x2 = true then some x2 else none) else (if x2 = 0 then (if inb (x1 + x3) 395 = true then (if inb (7 : Int32) 395 = true then (if (w.1 1 (x1 + x3).toNatClampNeg) < (w.1 1 ((7 : Int32)).toNatClampNeg) then (f_X6_isBright_b37 x1 x3 (0 : Int32) (f_X6_isBright_b4 x1 w n) w) else (f_X6_isBright_b32 x1 x3 (f_X6_isBright_b4 x1 w n) w)) else none) else none) else (f_X6_isBright_b32 x1 x3 (f_X6_isBright_b4 x1 w n) w))
set_option maxRecDepth 100000 in
set_option maxHeartbeats 4000000 in
theorem wk_X6_isBright_b4 (Z : CSp) (w : Wd) (x1 : Int32)  : ∀ (n : Nat) (x2 : Int32) (x3 : Int32), Wm (EM Z) MX6_isBright (oI w) w 4 [(0, Value.ref (aC Z 0)), (1, Value.int x1), (2, Value.int x2), (3, Value.int x3)] [] (f_X6_isBright_b4 x1 w n x2 x3) := by
  intro n
  induction n with
  | zero =>
    intro x2 x3
    exact r_none
  | succ n ih =>
    intro x2 x3
    rw [f_X6_isBright_b4]
    refine r_iload_n dX6_isBright_4 3 rfl ?_
    refine r_bipush (v := 12) dX6_isBright_5 (by decide) ?_
    refine r_icmp_ge (tgt := 44) dX6_isBright_7 (by decide) (fun _ => ?_) (fun _ => ?_)
    · refine r_iload_n dX6_isBright_44 2 rfl ?_
      exact r_zret rfl dX6_isBright_45
    · refine r_iload_n dX6_isBright_10 2 rfl ?_
      refine r_if_ne (tgt := 32) dX6_isBright_11 (by decide) (fun _ => ?_) (fun _ => ?_)
      · refine r_lv [0, 1, 3] rfl ?_
        exact wk_X6_isBright_b32 Z w x1 x3 _ (ih)
      · refine r_aload_n dX6_isBright_14 0 rfl ?_
        refine r_get FX6 0 (Nat.le_of_ble_eq_true rfl) kf_X6_7 0 (qM_0 Z w) rfl dX6_isBright_15 ?_
        refine r_iload_n dX6_isBright_18 1 rfl ?_
        refine r_iload_n dX6_isBright_19 3 rfl ?_
        refine r_iadd dX6_isBright_20 ?_
        refine r_iald 1 (qM_1 Z w) rfl dX6_isBright_21 ?_
        refine r_aload_n dX6_isBright_22 0 rfl ?_
        refine r_get FX6 0 (Nat.le_of_ble_eq_true rfl) kf_X6_7 0 (qM_0 Z w) rfl dX6_isBright_23 ?_
        refine r_bipush (v := 7) dX6_isBright_26 (by decide) ?_
        refine r_iald 1 (qM_1 Z w) rfl dX6_isBright_28 ?_
        refine r_icmp_lt (tgt := 36) dX6_isBright_29 (by decide) (fun _ => ?_) (fun _ => ?_)
        · refine r_iconst (v := 0) dX6_isBright_36 (by decide) ?_
          refine r_lv [0, 1, 3] rfl ?_
          exact wk_X6_isBright_b37 Z w x1 x3 (0 : Int32) _ (ih)
        · refine r_lv [0, 1, 3] rfl ?_
          exact wk_X6_isBright_b32 Z w x1 x3 _ (ih)
def f_X6_isBright (x1 : Int32) (w : Wd) : Option (Int32) :=
  f_X6_isBright_b4 x1 w FUEL (0 : Int32) (0 : Int32)
set_option maxRecDepth 100000 in
set_option maxHeartbeats 4000000 in
theorem wk_X6_isBright (Z : CSp) (w : Wd) (x1 : Int32)  : Wm (EM Z) MX6_isBright (oI w) w 0 [(0, Value.ref (aC Z 0)), (1, Value.int x1)] [] (f_X6_isBright x1 w) := by
  unfold f_X6_isBright
  refine r_iconst (v := 0) dX6_isBright_0 (by decide) ?_
  refine r_istore_n (lv' := [(0, Value.ref (aC Z 0)), (1, Value.int x1), (2, Value.int (0 : Int32))]) dX6_isBright_1 (Nat.le_of_ble_eq_true rfl) [1, 2, 0] rfl ?_
  refine r_iconst (v := 0) dX6_isBright_2 (by decide) ?_
  refine r_istore_n (lv' := [(0, Value.ref (aC Z 0)), (1, Value.int x1), (2, Value.int (0 : Int32)), (3, Value.int (0 : Int32))]) dX6_isBright_3 (Nat.le_of_ble_eq_true rfl) [1, 2, 3, 0] rfl ?_
  exact wk_X6_isBright_b4 Z w x1 FUEL (0 : Int32) (0 : Int32)
theorem m_X6_isBright (Z : CSp) (w : Wd) (x1 : Int32) : MetM (EM Z) yX6_isBright cX6_isBright 4 (some .boolean) { frames := 0, cells := 0, slots := 0, locals := 0 } (oI w) [Value.ref (aC Z 0), Value.int x1] w (f_X6_isBright x1 w) := MetM_of (plainFor_of_name (by decide)) (Nat.le_of_ble_eq_true rfl) (wk_X6_isBright Z w x1)
abbrev MX6_isDark : Mt := (cX6_isDark, RX6, 4, some .boolean, { frames := 3, cells := 0, slots := 0, locals := 63 })
def f_X6_isDark_b51 (x1 : Int32) (x3 : Int32) (s0 : Int32) (k4 : Int32 → Int32 → Option (Int32)) (w : Wd) : Option (Int32) :=
  k4 s0 (x3 + 1)
set_option maxRecDepth 100000 in
set_option maxHeartbeats 4000000 in
theorem wk_X6_isDark_b51 (Z : CSp) (w : Wd) (x1 : Int32) (x3 : Int32) (s0 : Int32) (k4 : Int32 → Int32 → Option (Int32)) (hk4 : ∀ (x2 : Int32) (x3 : Int32), Wm (EM Z) MX6_isDark (oI w) w 4 [(0, Value.ref (aC Z 0)), (1, Value.int x1), (2, Value.int x2), (3, Value.int x3)] [] (k4 x2 x3)) : Wm (EM Z) MX6_isDark (oI w) w 51 [(0, Value.ref (aC Z 0)), (1, Value.int x1), (3, Value.int x3)] [Value.int s0] (f_X6_isDark_b51 x1 x3 s0 k4 w) := by
  unfold f_X6_isDark_b51
  refine r_istore_n (lv' := [(0, Value.ref (aC Z 0)), (1, Value.int x1), (2, Value.int s0), (3, Value.int x3)]) dX6_isDark_51 (Nat.le_of_ble_eq_true rfl) [1, 2, 0, 3] rfl ?_
  refine r_iinc (lv' := [(0, Value.ref (aC Z 0)), (1, Value.int x1), (2, Value.int s0), (3, Value.int (x3 + 1))]) dX6_isDark_52 3 rfl (by rfl) (Nat.le_of_ble_eq_true rfl) [1, 2, 3, 0] rfl ?_
  refine r_goto (tgt := 4) dX6_isDark_55 (by decide) ?_
  exact hk4 s0 (x3 + 1)
def f_X6_isDark_b46 (x1 : Int32) (x3 : Int32) (k4 : Int32 → Int32 → Option (Int32)) (w : Wd) : Option (Int32) :=
  f_X6_isDark_b51 x1 x3 (1 : Int32) k4 w
set_option maxRecDepth 100000 in
set_option maxHeartbeats 4000000 in
theorem wk_X6_isDark_b46 (Z : CSp) (w : Wd) (x1 : Int32) (x3 : Int32) (k4 : Int32 → Int32 → Option (Int32)) (hk4 : ∀ (x2 : Int32) (x3 : Int32), Wm (EM Z) MX6_isDark (oI w) w 4 [(0, Value.ref (aC Z 0)), (1, Value.int x1), (2, Value.int x2), (3, Value.int x3)] [] (k4 x2 x3)) : Wm (EM Z) MX6_isDark (oI w) w 46 [(0, Value.ref (aC Z 0)), (1, Value.int x1), (3, Value.int x3)] [] (f_X6_isDark_b46 x1 x3 k4 w) := by
  unfold f_X6_isDark_b46
  refine r_iconst (v := 1) dX6_isDark_46 (by decide) ?_
  refine r_goto (tgt := 51) dX6_isDark_47 (by decide) ?_
  exact wk_X6_isDark_b51 Z w x1 x3 (1 : Int32) k4 hk4
def f_X6_isDark_b4 (x1 : Int32) (w : Wd) : Nat → Int32 → Int32 → Option (Int32)
  | 0, _, _ => none
  | n + 1, x2, x3 =>
  if (3 : Int32) ≤ x3 then (if zb x2 = true then some x2 else none) else (if x2 = 0 then ((f_X6_sumOf (x1 + ((4 : Int32) * x3)) w).bind (fun v3 => if v3 = 0 then (f_X6_isDark_b46 x1 x3 (f_X6_isDark_b4 x1 w n) w) else ((f_X6_strengthOf (x1 + ((4 : Int32) * x3)) w).bind (fun v4 => if inb (6 : Int32) 395 = true then (if 0 ≤ (fcg v4 (FP.i2f (w.1 1 ((6 : Int32)).toNatClampNeg))) then (f_X6_isDark_b51 x1 x3 (0 : Int32) (f_X6_isDark_b4 x1 w n) w) else (f_X6_isDark_b46 x1 x3 (f_X6_isDark_b4 x1 w n) w)) else none)))) else (f_X6_isDark_b46 x1 x3 (f_X6_isDark_b4 x1 w n) w))
set_option maxRecDepth 100000 in
set_option maxHeartbeats 4000000 in
theorem wk_X6_isDark_b4 (Z : CSp) (w : Wd) (x1 : Int32)  : ∀ (n : Nat) (x2 : Int32) (x3 : Int32), Wm (EM Z) MX6_isDark (oI w) w 4 [(0, Value.ref (aC Z 0)), (1, Value.int x1), (2, Value.int x2), (3, Value.int x3)] [] (f_X6_isDark_b4 x1 w n x2 x3) := by
  intro n
  induction n with
  | zero =>
    intro x2 x3
    exact r_none
  | succ n ih =>
    intro x2 x3
    rw [f_X6_isDark_b4]
    refine r_iload_n dX6_isDark_4 3 rfl ?_
    refine r_iconst (v := 3) dX6_isDark_5 (by decide) ?_
    refine r_icmp_ge (tgt := 58) dX6_isDark_6 (by decide) (fun _ => ?_) (fun _ => ?_)
    · refine r_iload_n dX6_isDark_58 2 rfl ?_
      exact r_zret rfl dX6_isDark_59
    · refine r_iload_n dX6_isDark_9 2 rfl ?_
      refine r_if_ne (tgt := 46) dX6_isDark_10 (by decide) (fun _ => ?_) (fun _ => ?_)
      · refine r_lv [0, 1, 3] rfl ?_
        exact wk_X6_isDark_b46 Z w x1 x3 _ (ih)
      · refine r_aload_n dX6_isDark_13 0 rfl ?_
        refine r_iload_n dX6_isDark_14 1 rfl ?_
        refine r_iconst (v := 4) dX6_isDark_15 (by decide) ?_
        refine r_iload_n dX6_isDark_16 3 rfl ?_
        refine r_imul dX6_isDark_17 ?_
        refine r_iadd dX6_isDark_18 ?_
        refine r_callV_I [Value.int (x1 + ((4 : Int32) * x3))] cfX6_sumOf (m_X6_sumOf Z w (x1 + ((4 : Int32) * x3))) km_X6_127 ⟨rfl, rfl, (Nat.le_of_ble_eq_true rfl), (Nat.le_of_ble_eq_true rfl)⟩ rfl rfl 0 (qM_0 Z w) rfl rfl (Nat.le_of_ble_eq_true rfl) dX6_isDark_19 (fun v3 => ?_)
        refine r_if_eq (tgt := 46) dX6_isDark_22 (by decide) (fun _ => ?_) (fun _ => ?_)
        · refine r_lv [0, 1, 3] rfl ?_
          exact wk_X6_isDark_b46 Z w x1 x3 _ (ih)
        · refine r_aload_n dX6_isDark_25 0 rfl ?_
          refine r_iload_n dX6_isDark_26 1 rfl ?_
          refine r_iconst (v := 4) dX6_isDark_27 (by decide) ?_
          refine r_iload_n dX6_isDark_28 3 rfl ?_
          refine r_imul dX6_isDark_29 ?_
          refine r_iadd dX6_isDark_30 ?_
          refine r_callV_F [Value.int (x1 + ((4 : Int32) * x3))] cfX6_strengthOf (m_X6_strengthOf Z w (x1 + ((4 : Int32) * x3))) km_X6_143 ⟨rfl, rfl, (Nat.le_of_ble_eq_true rfl), (Nat.le_of_ble_eq_true rfl)⟩ rfl rfl 0 (qM_0 Z w) rfl rfl (Nat.le_of_ble_eq_true rfl) dX6_isDark_31 (fun v4 => ?_)
          refine r_aload_n dX6_isDark_34 0 rfl ?_
          refine r_get FX6 0 (Nat.le_of_ble_eq_true rfl) kf_X6_7 0 (qM_0 Z w) rfl dX6_isDark_35 ?_
          refine r_bipush (v := 6) dX6_isDark_38 (by decide) ?_
          refine r_iald 1 (qM_1 Z w) rfl dX6_isDark_40 ?_
          refine r_i2f dX6_isDark_41 ?_
          refine r_fcmpg dX6_isDark_42 ?_
          refine r_if_ge (tgt := 50) dX6_isDark_43 (by decide) (fun _ => ?_) (fun _ => ?_)
          · refine r_iconst (v := 0) dX6_isDark_50 (by decide) ?_
            refine r_lv [0, 1, 3] rfl ?_
            exact wk_X6_isDark_b51 Z w x1 x3 (0 : Int32) _ (ih)
          · refine r_lv [0, 1, 3] rfl ?_
            exact wk_X6_isDark_b46 Z w x1 x3 _ (ih)
def f_X6_isDark (x1 : Int32) (w : Wd) : Option (Int32) :=
  f_X6_isDark_b4 x1 w FUEL (0 : Int32) (0 : Int32)
set_option maxRecDepth 100000 in
set_option maxHeartbeats 4000000 in
theorem wk_X6_isDark (Z : CSp) (w : Wd) (x1 : Int32)  : Wm (EM Z) MX6_isDark (oI w) w 0 [(0, Value.ref (aC Z 0)), (1, Value.int x1)] [] (f_X6_isDark x1 w) := by
  unfold f_X6_isDark
  refine r_iconst (v := 0) dX6_isDark_0 (by decide) ?_
  refine r_istore_n (lv' := [(0, Value.ref (aC Z 0)), (1, Value.int x1), (2, Value.int (0 : Int32))]) dX6_isDark_1 (Nat.le_of_ble_eq_true rfl) [1, 2, 0] rfl ?_
  refine r_iconst (v := 0) dX6_isDark_2 (by decide) ?_
  refine r_istore_n (lv' := [(0, Value.ref (aC Z 0)), (1, Value.int x1), (2, Value.int (0 : Int32)), (3, Value.int (0 : Int32))]) dX6_isDark_3 (Nat.le_of_ble_eq_true rfl) [1, 2, 3, 0] rfl ?_
  exact wk_X6_isDark_b4 Z w x1 FUEL (0 : Int32) (0 : Int32)
theorem m_X6_isDark (Z : CSp) (w : Wd) (x1 : Int32) : MetM (EM Z) yX6_isDark cX6_isDark 4 (some .boolean) { frames := 3, cells := 0, slots := 0, locals := 63 } (oI w) [Value.ref (aC Z 0), Value.int x1] w (f_X6_isDark x1 w) := MetM_of (plainFor_of_name (by decide)) (Nat.le_of_ble_eq_true rfl) (wk_X6_isDark Z w x1)
abbrev MX6_widens : Mt := (cX6_widens, RX6, 2, none, { frames := 0, cells := 0, slots := 0, locals := 0 })
def f_X6_widens_b71 (s0 : Int32) (w : Wd) : Option (Wd) :=
  wput w 0 10 s0 (fun w2 => some w2)
set_option maxRecDepth 100000 in
set_option maxHeartbeats 4000000 in
theorem wk_X6_widens_b71 (Z : CSp) (w : Wd) (s0 : Int32)  : Wm (EM Z) MX6_widens oVw w 71 [] [Value.int s0, Value.ref (aC Z 0)] (f_X6_widens_b71 s0 w) := by
  unfold f_X6_widens_b71
  refine r_puti FX6 tyX6_ok nmX6 kf_X6_164 (qM_0 Z w) ⟨(Nat.le_of_ble_eq_true rfl), (Nat.le_of_ble_eq_true rfl), rfl⟩ (by decide) (uM_0_10 Z w s0) dX6_widens_71 (fun w2 => ?_)
  exact r_vret rfl dX6_widens_74
def f_X6_widens_b67 (w : Wd) : Option (Wd) :=
  f_X6_widens_b71 (w.1 0 10) w
set_option maxRecDepth 100000 in
set_option maxHeartbeats 4000000 in
theorem wk_X6_widens_b67 (Z : CSp) (w : Wd)   : Wm (EM Z) MX6_widens oVw w 67 [(0, Value.ref (aC Z 0))] [Value.ref (aC Z 0)] (f_X6_widens_b67 w) := by
  unfold f_X6_widens_b67
  refine r_aload_n dX6_widens_67 0 rfl ?_
  refine r_get FX6 10 (Nat.le_of_ble_eq_true rfl) kf_X6_164 0 (qM_0 Z w) rfl dX6_widens_68 ?_
  refine r_lv [] rfl ?_
  exact wk_X6_widens_b71 Z w (w.1 0 10)
def f_X6_widens_b63 (x1 : Int32) (w : Wd) : Option (Wd) :=
  f_X6_widens_b71 x1 w
set_option maxRecDepth 100000 in
set_option maxHeartbeats 4000000 in
theorem wk_X6_widens_b63 (Z : CSp) (w : Wd) (x1 : Int32)  : Wm (EM Z) MX6_widens oVw w 63 [(1, Value.int x1)] [Value.ref (aC Z 0)] (f_X6_widens_b63 x1 w) := by
  unfold f_X6_widens_b63
  refine r_iload_n dX6_widens_63 0 rfl ?_
  refine r_goto (tgt := 71) dX6_widens_64 (by decide) ?_
  refine r_lv [] rfl ?_
  exact wk_X6_widens_b71 Z w x1
def f_X6_widens_b34 (x1 : Int32) (s0 : Int32) (w : Wd) : Option (Wd) :=
  wput w 0 9 s0 (fun w2 => if x1 = (-10001 : Int32) then (f_X6_widens_b67 w2) else (if (w2.1 0 10) = (-10001 : Int32) then (f_X6_widens_b63 x1 w2) else (if x1 ≤ (w2.1 0 10) then (f_X6_widens_b67 w2) else (f_X6_widens_b63 x1 w2))))
set_option maxRecDepth 100000 in
set_option maxHeartbeats 4000000 in
theorem wk_X6_widens_b34 (Z : CSp) (w : Wd) (x1 : Int32) (s0 : Int32)  : Wm (EM Z) MX6_widens oVw w 34 [(0, Value.ref (aC Z 0)), (1, Value.int x1)] [Value.int s0, Value.ref (aC Z 0)] (f_X6_widens_b34 x1 s0 w) := by
  unfold f_X6_widens_b34
  refine r_puti FX6 tyX6_ok nmX6 kf_X6_161 (qM_0 Z w) ⟨(Nat.le_of_ble_eq_true rfl), (Nat.le_of_ble_eq_true rfl), rfl⟩ (by decide) (uM_0_9 Z w s0) dX6_widens_34 (fun w2 => ?_)
  refine r_aload_n dX6_widens_37 0 rfl ?_
  refine r_iload_n dX6_widens_38 1 rfl ?_
  refine r_sipush (v := -10001) dX6_widens_39 (by decide) ?_
  refine r_icmp_eq (tgt := 67) dX6_widens_42 (by decide) (fun _ => ?_) (fun _ => ?_)
  · refine r_lv [0] rfl ?_
    exact wk_X6_widens_b67 Z w2
  · refine r_aload_n dX6_widens_45 0 rfl ?_
    refine r_get FX6 10 (Nat.le_of_ble_eq_true rfl) kf_X6_164 0 (qM_0 Z w2) rfl dX6_widens_46 ?_
    refine r_sipush (v := -10001) dX6_widens_49 (by decide) ?_
    refine r_icmp_eq (tgt := 63) dX6_widens_52 (by decide) (fun _ => ?_) (fun _ => ?_)
    · refine r_lv [1] rfl ?_
      exact wk_X6_widens_b63 Z w2 x1
    · refine r_iload_n dX6_widens_55 1 rfl ?_
      refine r_aload_n dX6_widens_56 0 rfl ?_
      refine r_get FX6 10 (Nat.le_of_ble_eq_true rfl) kf_X6_164 0 (qM_0 Z w2) rfl dX6_widens_57 ?_
      refine r_icmp_le (tgt := 67) dX6_widens_60 (by decide) (fun _ => ?_) (fun _ => ?_)
      · refine r_lv [0] rfl ?_
        exact wk_X6_widens_b67 Z w2
      · refine r_lv [1] rfl ?_
        exact wk_X6_widens_b63 Z w2 x1
def f_X6_widens_b30 (x1 : Int32) (w : Wd) : Option (Wd) :=
  f_X6_widens_b34 x1 (w.1 0 9) w
set_option maxRecDepth 100000 in
set_option maxHeartbeats 4000000 in
theorem wk_X6_widens_b30 (Z : CSp) (w : Wd) (x1 : Int32)  : Wm (EM Z) MX6_widens oVw w 30 [(0, Value.ref (aC Z 0)), (1, Value.int x1)] [Value.ref (aC Z 0)] (f_X6_widens_b30 x1 w) := by
  unfold f_X6_widens_b30
  refine r_aload_n dX6_widens_30 0 rfl ?_
  refine r_get FX6 9 (Nat.le_of_ble_eq_true rfl) kf_X6_161 0 (qM_0 Z w) rfl dX6_widens_31 ?_
  exact wk_X6_widens_b34 Z w x1 (w.1 0 9)
def f_X6_widens_b26 (x1 : Int32) (w : Wd) : Option (Wd) :=
  f_X6_widens_b34 x1 x1 w
set_option maxRecDepth 100000 in
set_option maxHeartbeats 4000000 in
theorem wk_X6_widens_b26 (Z : CSp) (w : Wd) (x1 : Int32)  : Wm (EM Z) MX6_widens oVw w 26 [(0, Value.ref (aC Z 0)), (1, Value.int x1)] [Value.ref (aC Z 0)] (f_X6_widens_b26 x1 w) := by
  unfold f_X6_widens_b26
  refine r_iload_n dX6_widens_26 1 rfl ?_
  refine r_goto (tgt := 34) dX6_widens_27 (by decide) ?_
  exact wk_X6_widens_b34 Z w x1 x1
def f_X6_widens (x1 : Int32) (w : Wd) : Option (Wd) :=
  if x1 = (-10001 : Int32) then (f_X6_widens_b30 x1 w) else (if (w.1 0 9) = (-10001 : Int32) then (f_X6_widens_b26 x1 w) else (if (w.1 0 9) ≤ x1 then (f_X6_widens_b30 x1 w) else (f_X6_widens_b26 x1 w)))
set_option maxRecDepth 100000 in
set_option maxHeartbeats 4000000 in
theorem wk_X6_widens (Z : CSp) (w : Wd) (x1 : Int32)  : Wm (EM Z) MX6_widens oVw w 0 [(0, Value.ref (aC Z 0)), (1, Value.int x1)] [] (f_X6_widens x1 w) := by
  unfold f_X6_widens
  refine r_aload_n dX6_widens_0 0 rfl ?_
  refine r_iload_n dX6_widens_1 1 rfl ?_
  refine r_sipush (v := -10001) dX6_widens_2 (by decide) ?_
  refine r_icmp_eq (tgt := 30) dX6_widens_5 (by decide) (fun _ => ?_) (fun _ => ?_)
  · exact wk_X6_widens_b30 Z w x1
  · refine r_aload_n dX6_widens_8 0 rfl ?_
    refine r_get FX6 9 (Nat.le_of_ble_eq_true rfl) kf_X6_161 0 (qM_0 Z w) rfl dX6_widens_9 ?_
    refine r_sipush (v := -10001) dX6_widens_12 (by decide) ?_
    refine r_icmp_eq (tgt := 26) dX6_widens_15 (by decide) (fun _ => ?_) (fun _ => ?_)
    · exact wk_X6_widens_b26 Z w x1
    · refine r_iload_n dX6_widens_18 1 rfl ?_
      refine r_aload_n dX6_widens_19 0 rfl ?_
      refine r_get FX6 9 (Nat.le_of_ble_eq_true rfl) kf_X6_161 0 (qM_0 Z w) rfl dX6_widens_20 ?_
      refine r_icmp_ge (tgt := 30) dX6_widens_23 (by decide) (fun _ => ?_) (fun _ => ?_)
      · exact wk_X6_widens_b30 Z w x1
      · exact wk_X6_widens_b26 Z w x1
theorem m_X6_widens (Z : CSp) (w : Wd) (x1 : Int32) : MetM (EM Z) yX6_widens cX6_widens 2 none { frames := 0, cells := 0, slots := 0, locals := 0 } oVw [Value.ref (aC Z 0), Value.int x1] w (f_X6_widens x1 w) := MetM_of (plainFor_of_name (by decide)) (Nat.le_of_ble_eq_true rfl) (wk_X6_widens Z w x1)
abbrev MX6_looksAt : Mt := (cX6_looksAt, RX6, 4, none, { frames := 4, cells := 0, slots := 0, locals := 88 })
def f_X6_looksAt_b200 (s0 : Int32) (w : Wd) : Option (Wd) :=
  wput w 0 7 s0 (fun w2 => some w2)
set_option maxRecDepth 100000 in
set_option maxHeartbeats 4000000 in
theorem wk_X6_looksAt_b200 (Z : CSp) (w : Wd) (s0 : Int32)  : Wm (EM Z) MX6_looksAt oVw w 200 [] [Value.int s0, Value.ref (aC Z 0)] (f_X6_looksAt_b200 s0 w) := by
  unfold f_X6_looksAt_b200
  refine r_puti FX6 tyX6_ok nmX6 kf_X6_174 (qM_0 Z w) ⟨(Nat.le_of_ble_eq_true rfl), (Nat.le_of_ble_eq_true rfl), rfl⟩ (by decide) (uM_0_7 Z w s0) dX6_looksAt_200 (fun w2 => ?_)
  exact r_vret rfl dX6_looksAt_203
def f_X6_looksAt_b152 (s0 : Int32) (w : Wd) : Option (Wd) :=
  wput w 0 8 s0 (fun w2 => some w2)
set_option maxRecDepth 100000 in
set_option maxHeartbeats 4000000 in
theorem wk_X6_looksAt_b152 (Z : CSp) (w : Wd) (s0 : Int32)  : Wm (EM Z) MX6_looksAt oVw w 152 [] [Value.int s0, Value.ref (aC Z 0)] (f_X6_looksAt_b152 s0 w) := by
  unfold f_X6_looksAt_b152
  refine r_puti FX6 tyX6_ok nmX6 kf_X6_167 (qM_0 Z w) ⟨(Nat.le_of_ble_eq_true rfl), (Nat.le_of_ble_eq_true rfl), rfl⟩ (by decide) (uM_0_8 Z w s0) dX6_looksAt_152 (fun w2 => ?_)
  exact r_vret rfl dX6_looksAt_155
def f_X6_looksAt_b134 (x2 : Int32) (s0 : Int32) (w : Wd) : Option (Wd) :=
  wput w 0 7 s0 (fun w2 => if (w2.1 0 7) = 0 then (f_X6_looksAt_b152 x2 w2) else (f_X6_looksAt_b152 (-10001 : Int32) w2))
set_option maxRecDepth 100000 in
set_option maxHeartbeats 4000000 in
theorem wk_X6_looksAt_b134 (Z : CSp) (w : Wd) (x2 : Int32) (s0 : Int32)  : Wm (EM Z) MX6_looksAt oVw w 134 [(0, Value.ref (aC Z 0)), (2, Value.int x2)] [Value.int s0, Value.ref (aC Z 0)] (f_X6_looksAt_b134 x2 s0 w) := by
  unfold f_X6_looksAt_b134
  refine r_puti FX6 tyX6_ok nmX6 kf_X6_174 (qM_0 Z w) ⟨(Nat.le_of_ble_eq_true rfl), (Nat.le_of_ble_eq_true rfl), rfl⟩ (by decide) (uM_0_7 Z w s0) dX6_looksAt_134 (fun w2 => ?_)
  refine r_aload_n dX6_looksAt_137 0 rfl ?_
  refine r_aload_n dX6_looksAt_138 0 rfl ?_
  refine r_get FX6 7 (Nat.le_of_ble_eq_true rfl) kf_X6_174 0 (qM_0 Z w2) rfl dX6_looksAt_139 ?_
  refine r_if_ne (tgt := 149) dX6_looksAt_142 (by decide) (fun _ => ?_) (fun _ => ?_)
  · refine r_sipush (v := -10001) dX6_looksAt_149 (by decide) ?_
    refine r_lv [] rfl ?_
    exact wk_X6_looksAt_b152 Z w2 (-10001 : Int32)
  · refine r_iload_n dX6_looksAt_145 1 rfl ?_
    refine r_goto (tgt := 152) dX6_looksAt_146 (by decide) ?_
    refine r_lv [] rfl ?_
    exact wk_X6_looksAt_b152 Z w2 x2
def f_X6_looksAt_b133 (x2 : Int32) (w : Wd) : Option (Wd) :=
  f_X6_looksAt_b134 x2 (3 : Int32) w
set_option maxRecDepth 100000 in
set_option maxHeartbeats 4000000 in
theorem wk_X6_looksAt_b133 (Z : CSp) (w : Wd) (x2 : Int32)  : Wm (EM Z) MX6_looksAt oVw w 133 [(0, Value.ref (aC Z 0)), (2, Value.int x2)] [Value.ref (aC Z 0)] (f_X6_looksAt_b133 x2 w) := by
  unfold f_X6_looksAt_b133
  refine r_iconst (v := 3) dX6_looksAt_133 (by decide) ?_
  exact wk_X6_looksAt_b134 Z w x2 (3 : Int32)
def f_X6_looksAt_b51 (x1 : Int32) : Nat → Int32 → Wd → Option (Wd)
  | 0, _, _ => none
  | n + 1, x2, w =>
  if (3 : Int32) ≤ x2 then ((f_X6_bestOf (7 : Int32) w).bind (fun z11 => if z11.1 = (-10001 : Int32) then ((f_X6_bestOf (3 : Int32) z11.2).bind (fun z12 => (f_X6_widens z12.1 z12.2).bind (fun w13 => (f_X6_bestOf (5 : Int32) w13).bind (fun z14 => (f_X6_widens z14.1 z14.2).bind (fun w15 => (f_X6_bestOf (6 : Int32) w15).bind (fun z16 => (f_X6_widens z16.1 z16.2).bind (fun w17 => if (w17.1 0 9) = (-10001 : Int32) then (f_X6_looksAt_b200 (5 : Int32) w17) else (f_X6_looksAt_b200 (4 : Int32) w17)))))))) else (if inb (5 : Int32) 395 = true then (jlet ((2 : Int32) * (z11.2.1 1 ((5 : Int32)).toNatClampNeg)) (fun y18 => if y18 < (z11.1 - (z11.2.1 0 12)) then (f_X6_looksAt_b133 z11.1 z11.2) else (if y18 < ((z11.2.1 0 13) - z11.1) then (f_X6_looksAt_b133 z11.1 z11.2) else (f_X6_looksAt_b134 z11.1 (0 : Int32) z11.2)))) else none))) else (if inb ((2 : Int32) + x2) 395 = true then ((f_X6_residueOf (x1 + ((4 : Int32) * x2)) (w.1 1 ((2 : Int32) + x2).toNatClampNeg) w).bind (fun v19 => if inb x2 3 = true then (wput w 6 (x2).toNatClampNeg v19 (fun w20 => f_X6_looksAt_b51 x1 n (x2 + 1) w20)) else none)) else none)
set_option maxRecDepth 100000 in
set_option maxHeartbeats 4000000 in
theorem wk_X6_looksAt_b51 (Z : CSp) (x1 : Int32)  : ∀ (n : Nat) (x2 : Int32) (w : Wd), Wm (EM Z) MX6_looksAt oVw w 51 [(0, Value.ref (aC Z 0)), (1, Value.int x1), (2, Value.int x2)] [] (f_X6_looksAt_b51 x1 n x2 w) := by
  intro n
  induction n with
  | zero =>
    intro x2 w
    exact r_none
  | succ n ih =>
    intro x2 w
    rw [f_X6_looksAt_b51]
    refine r_iload_n dX6_looksAt_51 2 rfl ?_
    refine r_iconst (v := 3) dX6_looksAt_52 (by decide) ?_
    refine r_icmp_ge (tgt := 85) dX6_looksAt_53 (by decide) (fun _ => ?_) (fun _ => ?_)
    · refine r_aload_n dX6_looksAt_85 0 rfl ?_
      refine r_bipush (v := 7) dX6_looksAt_86 (by decide) ?_
      refine r_callV_Iw [Value.int (7 : Int32)] cfX6_bestOf (m_X6_bestOf Z w (7 : Int32)) km_X6_180 ⟨rfl, rfl, (Nat.le_of_ble_eq_true rfl), (Nat.le_of_ble_eq_true rfl)⟩ rfl rfl 0 (qM_0 Z w) rfl rfl (Nat.le_of_ble_eq_true rfl) dX6_looksAt_88 (fun z11 => ?_)
      refine r_istore_n (lv' := [(0, Value.ref (aC Z 0)), (1, Value.int x1), (2, Value.int z11.1)]) dX6_looksAt_91 (Nat.le_of_ble_eq_true rfl) [1, 2, 0] rfl ?_
      refine r_iload_n dX6_looksAt_92 2 rfl ?_
      refine r_sipush (v := -10001) dX6_looksAt_93 (by decide) ?_
      refine r_icmp_eq (tgt := 156) dX6_looksAt_96 (by decide) (fun _ => ?_) (fun _ => ?_)
      · refine r_aload_n dX6_looksAt_156 0 rfl ?_
        refine r_aload_n dX6_looksAt_157 0 rfl ?_
        refine r_iconst (v := 3) dX6_looksAt_158 (by decide) ?_
        refine r_callV_Iw [Value.int (3 : Int32)] cfX6_bestOf (m_X6_bestOf Z z11.2 (3 : Int32)) km_X6_180 ⟨rfl, rfl, (Nat.le_of_ble_eq_true rfl), (Nat.le_of_ble_eq_true rfl)⟩ rfl rfl 0 (qM_0 Z z11.2) rfl rfl (Nat.le_of_ble_eq_true rfl) dX6_looksAt_159 (fun z12 => ?_)
        refine r_callV_Vw [Value.int z12.1] cfX6_widens (m_X6_widens Z z12.2 z12.1) km_X6_183 ⟨rfl, rfl, (Nat.le_of_ble_eq_true rfl), (Nat.le_of_ble_eq_true rfl)⟩ rfl rfl 0 (qM_0 Z z12.2) rfl rfl (Nat.le_of_ble_eq_true rfl) dX6_looksAt_162 (fun w13 => ?_)
        refine r_aload_n dX6_looksAt_165 0 rfl ?_
        refine r_aload_n dX6_looksAt_166 0 rfl ?_
        refine r_iconst (v := 5) dX6_looksAt_167 (by decide) ?_
        refine r_callV_Iw [Value.int (5 : Int32)] cfX6_bestOf (m_X6_bestOf Z w13 (5 : Int32)) km_X6_180 ⟨rfl, rfl, (Nat.le_of_ble_eq_true rfl), (Nat.le_of_ble_eq_true rfl)⟩ rfl rfl 0 (qM_0 Z w13) rfl rfl (Nat.le_of_ble_eq_true rfl) dX6_looksAt_168 (fun z14 => ?_)
        refine r_callV_Vw [Value.int z14.1] cfX6_widens (m_X6_widens Z z14.2 z14.1) km_X6_183 ⟨rfl, rfl, (Nat.le_of_ble_eq_true rfl), (Nat.le_of_ble_eq_true rfl)⟩ rfl rfl 0 (qM_0 Z z14.2) rfl rfl (Nat.le_of_ble_eq_true rfl) dX6_looksAt_171 (fun w15 => ?_)
        refine r_aload_n dX6_looksAt_174 0 rfl ?_
        refine r_aload_n dX6_looksAt_175 0 rfl ?_
        refine r_bipush (v := 6) dX6_looksAt_176 (by decide) ?_
        refine r_callV_Iw [Value.int (6 : Int32)] cfX6_bestOf (m_X6_bestOf Z w15 (6 : Int32)) km_X6_180 ⟨rfl, rfl, (Nat.le_of_ble_eq_true rfl), (Nat.le_of_ble_eq_true rfl)⟩ rfl rfl 0 (qM_0 Z w15) rfl rfl (Nat.le_of_ble_eq_true rfl) dX6_looksAt_178 (fun z16 => ?_)
        refine r_callV_Vw [Value.int z16.1] cfX6_widens (m_X6_widens Z z16.2 z16.1) km_X6_183 ⟨rfl, rfl, (Nat.le_of_ble_eq_true rfl), (Nat.le_of_ble_eq_true rfl)⟩ rfl rfl 0 (qM_0 Z z16.2) rfl rfl (Nat.le_of_ble_eq_true rfl) dX6_looksAt_181 (fun w17 => ?_)
        refine r_aload_n dX6_looksAt_184 0 rfl ?_
        refine r_aload_n dX6_looksAt_185 0 rfl ?_
        refine r_get FX6 9 (Nat.le_of_ble_eq_true rfl) kf_X6_161 0 (qM_0 Z w17) rfl dX6_looksAt_186 ?_
        refine r_sipush (v := -10001) dX6_looksAt_189 (by decide) ?_
        refine r_icmp_ne (tgt := 199) dX6_looksAt_192 (by decide) (fun _ => ?_) (fun _ => ?_)
        · refine r_iconst (v := 4) dX6_looksAt_199 (by decide) ?_
          refine r_lv [] rfl ?_
          exact wk_X6_looksAt_b200 Z w17 (4 : Int32)
        · refine r_iconst (v := 5) dX6_looksAt_195 (by decide) ?_
          refine r_goto (tgt := 200) dX6_looksAt_196 (by decide) ?_
          refine r_lv [] rfl ?_
          exact wk_X6_looksAt_b200 Z w17 (5 : Int32)
      · refine r_iconst (v := 2) dX6_looksAt_99 (by decide) ?_
        refine r_aload_n dX6_looksAt_100 0 rfl ?_
        refine r_get FX6 0 (Nat.le_of_ble_eq_true rfl) kf_X6_7 0 (qM_0 Z z11.2) rfl dX6_looksAt_101 ?_
        refine r_iconst (v := 5) dX6_looksAt_104 (by decide) ?_
        refine r_iald 1 (qM_1 Z z11.2) rfl dX6_looksAt_105 ?_
        refine r_imul dX6_looksAt_106 ?_
        refine r_leti (fun y18 => ?_)
        refine r_istore_n (lv' := [(0, Value.ref (aC Z 0)), (1, Value.int x1), (2, Value.int z11.1), (3, Value.int y18)]) dX6_looksAt_107 (Nat.le_of_ble_eq_true rfl) [1, 2, 3, 0] rfl ?_
        refine r_aload_n dX6_looksAt_108 0 rfl ?_
        refine r_iload_n dX6_looksAt_109 2 rfl ?_
        refine r_aload_n dX6_looksAt_110 0 rfl ?_
        refine r_get FX6 12 (Nat.le_of_ble_eq_true rfl) kf_X6_155 0 (qM_0 Z z11.2) rfl dX6_looksAt_111 ?_
        refine r_isub dX6_looksAt_114 ?_
        refine r_iload_n dX6_looksAt_115 3 rfl ?_
        refine r_icmp_gt (tgt := 133) dX6_looksAt_116 (by decide) (fun _ => ?_) (fun _ => ?_)
        · refine r_lv [0, 2] rfl ?_
          exact wk_X6_looksAt_b133 Z z11.2 z11.1
        · refine r_aload_n dX6_looksAt_119 0 rfl ?_
          refine r_get FX6 13 (Nat.le_of_ble_eq_true rfl) kf_X6_158 0 (qM_0 Z z11.2) rfl dX6_looksAt_120 ?_
          refine r_iload_n dX6_looksAt_123 2 rfl ?_
          refine r_isub dX6_looksAt_124 ?_
          refine r_iload_n dX6_looksAt_125 3 rfl ?_
          refine r_icmp_gt (tgt := 133) dX6_looksAt_126 (by decide) (fun _ => ?_) (fun _ => ?_)
          · refine r_lv [0, 2] rfl ?_
            exact wk_X6_looksAt_b133 Z z11.2 z11.1
          · refine r_iconst (v := 0) dX6_looksAt_129 (by decide) ?_
            refine r_goto (tgt := 134) dX6_looksAt_130 (by decide) ?_
            refine r_lv [0, 2] rfl ?_
            exact wk_X6_looksAt_b134 Z z11.2 z11.1 (0 : Int32)
    · refine r_aload_n dX6_looksAt_56 0 rfl ?_
      refine r_get FX6 11 (Nat.le_of_ble_eq_true rfl) kf_X6_25 0 (qM_0 Z w) rfl dX6_looksAt_57 ?_
      refine r_iload_n dX6_looksAt_60 2 rfl ?_
      refine r_aload_n dX6_looksAt_61 0 rfl ?_
      refine r_iload_n dX6_looksAt_62 1 rfl ?_
      refine r_iconst (v := 4) dX6_looksAt_63 (by decide) ?_
      refine r_iload_n dX6_looksAt_64 2 rfl ?_
      refine r_imul dX6_looksAt_65 ?_
      refine r_iadd dX6_looksAt_66 ?_
      refine r_aload_n dX6_looksAt_67 0 rfl ?_
      refine r_get FX6 0 (Nat.le_of_ble_eq_true rfl) kf_X6_7 0 (qM_0 Z w) rfl dX6_looksAt_68 ?_
      refine r_iconst (v := 2) dX6_looksAt_71 (by decide) ?_
      refine r_iload_n dX6_looksAt_72 2 rfl ?_
      refine r_iadd dX6_looksAt_73 ?_
      refine r_iald 1 (qM_1 Z w) rfl dX6_looksAt_74 ?_
      refine r_callV_I [Value.int (x1 + ((4 : Int32) * x2)), Value.int (w.1 1 ((2 : Int32) + x2).toNatClampNeg)] cfX6_residueOf (m_X6_residueOf Z w (x1 + ((4 : Int32) * x2)) (w.1 1 ((2 : Int32) + x2).toNatClampNeg)) km_X6_140 ⟨rfl, rfl, (Nat.le_of_ble_eq_true rfl), (Nat.le_of_ble_eq_true rfl)⟩ rfl rfl 0 (qM_0 Z w) rfl rfl (Nat.le_of_ble_eq_true rfl) dX6_looksAt_75 (fun v19 => ?_)
      refine r_iast (qM_6 Z w) rfl (uM_6 Z w v19) dX6_looksAt_78 (fun w20 => ?_)
      refine r_iinc (lv' := [(0, Value.ref (aC Z 0)), (1, Value.int x1), (2, Value.int (x2 + 1))]) dX6_looksAt_79 2 rfl (by rfl) (Nat.le_of_ble_eq_true rfl) [1, 2, 0] rfl ?_
      refine r_goto (tgt := 51) dX6_looksAt_82 (by decide) ?_
      exact ih (x2 + 1) w20
def f_X6_looksAt (x1 : Int32) (w : Wd) : Option (Wd) :=
  wput w 0 8 (-10001 : Int32) (fun w1 => wput w1 0 9 (-10001 : Int32) (fun w2 => wput w2 0 10 (-10001 : Int32) (fun w3 => (f_X6_isBright x1 w3).bind (fun v4 => if v4 = 0 then ((f_X6_isDark x1 w3).bind (fun v5 => if v5 = 0 then (f_X6_looksAt_b51 x1 FUEL (0 : Int32) w3) else (wput w3 0 7 (2 : Int32) (fun w6 => some w6)))) else (wput w3 0 7 (1 : Int32) (fun w7 => some w7))))))
set_option maxRecDepth 100000 in
set_option maxHeartbeats 4000000 in
theorem wk_X6_looksAt (Z : CSp) (w : Wd) (x1 : Int32)  : Wm (EM Z) MX6_looksAt oVw w 0 [(0, Value.ref (aC Z 0)), (1, Value.int x1)] [] (f_X6_looksAt x1 w) := by
  unfold f_X6_looksAt
  refine r_aload_n dX6_looksAt_0 0 rfl ?_
  refine r_sipush (v := -10001) dX6_looksAt_1 (by decide) ?_
  refine r_puti FX6 tyX6_ok nmX6 kf_X6_167 (qM_0 Z w) ⟨(Nat.le_of_ble_eq_true rfl), (Nat.le_of_ble_eq_true rfl), rfl⟩ (by decide) (uM_0_8 Z w (-10001 : Int32)) dX6_looksAt_4 (fun w1 => ?_)
  refine r_aload_n dX6_looksAt_7 0 rfl ?_
  refine r_sipush (v := -10001) dX6_looksAt_8 (by decide) ?_
  refine r_puti FX6 tyX6_ok nmX6 kf_X6_161 (qM_0 Z w1) ⟨(Nat.le_of_ble_eq_true rfl), (Nat.le_of_ble_eq_true rfl), rfl⟩ (by decide) (uM_0_9 Z w1 (-10001 : Int32)) dX6_looksAt_11 (fun w2 => ?_)
  refine r_aload_n dX6_looksAt_14 0 rfl ?_
  refine r_sipush (v := -10001) dX6_looksAt_15 (by decide) ?_
  refine r_puti FX6 tyX6_ok nmX6 kf_X6_164 (qM_0 Z w2) ⟨(Nat.le_of_ble_eq_true rfl), (Nat.le_of_ble_eq_true rfl), rfl⟩ (by decide) (uM_0_10 Z w2 (-10001 : Int32)) dX6_looksAt_18 (fun w3 => ?_)
  refine r_aload_n dX6_looksAt_21 0 rfl ?_
  refine r_iload_n dX6_looksAt_22 1 rfl ?_
  refine r_callV_I [Value.int x1] cfX6_isBright (m_X6_isBright Z w3 x1) km_X6_170 ⟨rfl, rfl, (Nat.le_of_ble_eq_true rfl), (Nat.le_of_ble_eq_true rfl)⟩ rfl rfl 0 (qM_0 Z w3) rfl rfl (Nat.le_of_ble_eq_true rfl) dX6_looksAt_23 (fun v4 => ?_)
  refine r_if_eq (tgt := 35) dX6_looksAt_26 (by decide) (fun _ => ?_) (fun _ => ?_)
  · refine r_aload_n dX6_looksAt_35 0 rfl ?_
    refine r_iload_n dX6_looksAt_36 1 rfl ?_
    refine r_callV_I [Value.int x1] cfX6_isDark (m_X6_isDark Z w3 x1) km_X6_177 ⟨rfl, rfl, (Nat.le_of_ble_eq_true rfl), (Nat.le_of_ble_eq_true rfl)⟩ rfl rfl 0 (qM_0 Z w3) rfl rfl (Nat.le_of_ble_eq_true rfl) dX6_looksAt_37 (fun v5 => ?_)
    refine r_if_eq (tgt := 49) dX6_looksAt_40 (by decide) (fun _ => ?_) (fun _ => ?_)
    · refine r_iconst (v := 0) dX6_looksAt_49 (by decide) ?_
      refine r_istore_n (lv' := [(0, Value.ref (aC Z 0)), (1, Value.int x1), (2, Value.int (0 : Int32))]) dX6_looksAt_50 (Nat.le_of_ble_eq_true rfl) [1, 2, 0] rfl ?_
      exact wk_X6_looksAt_b51 Z x1 FUEL (0 : Int32) w3
    · refine r_aload_n dX6_looksAt_43 0 rfl ?_
      refine r_iconst (v := 2) dX6_looksAt_44 (by decide) ?_
      refine r_puti FX6 tyX6_ok nmX6 kf_X6_174 (qM_0 Z w3) ⟨(Nat.le_of_ble_eq_true rfl), (Nat.le_of_ble_eq_true rfl), rfl⟩ (by decide) (uM_0_7 Z w3 (2 : Int32)) dX6_looksAt_45 (fun w6 => ?_)
      exact r_vret rfl dX6_looksAt_48
  · refine r_aload_n dX6_looksAt_29 0 rfl ?_
    refine r_iconst (v := 1) dX6_looksAt_30 (by decide) ?_
    refine r_puti FX6 tyX6_ok nmX6 kf_X6_174 (qM_0 Z w3) ⟨(Nat.le_of_ble_eq_true rfl), (Nat.le_of_ble_eq_true rfl), rfl⟩ (by decide) (uM_0_7 Z w3 (1 : Int32)) dX6_looksAt_31 (fun w7 => ?_)
    exact r_vret rfl dX6_looksAt_34
theorem m_X6_looksAt (Z : CSp) (w : Wd) (x1 : Int32) : MetM (EM Z) yX6_looksAt cX6_looksAt 4 none { frames := 4, cells := 0, slots := 0, locals := 88 } oVw [Value.ref (aC Z 0), Value.int x1] w (f_X6_looksAt x1 w) := MetM_of (plainFor_of_name (by decide)) (Nat.le_of_ble_eq_true rfl) (wk_X6_looksAt Z w x1)
abbrev MX6_weighs : Mt := (cX6_weighs, RX6, 7, none, { frames := 5, cells := 0, slots := 0, locals := 111 })
def f_X6_weighs_b127 (w : Wd) : Option (Wd) :=
  some w
set_option maxRecDepth 100000 in
set_option maxHeartbeats 4000000 in
theorem wk_X6_weighs_b127 (Z : CSp) (w : Wd)   : Wm (EM Z) MX6_weighs oVw w 127 [] [] (f_X6_weighs_b127 w) := by
  unfold f_X6_weighs_b127
  exact r_vret rfl dX6_weighs_127
def f_X6_weighs_b51 (s0 : UInt32) (w : Wd) : Option (Wd) :=
  if (w.1 0 7) = 0 then (if inb (9 : Int32) 395 = true then (if nn32 (FP.fmul (1082130432 : UInt32) (FP.i2f (w.1 1 ((9 : Int32)).toNatClampNeg))) = true then (if 0 < (fcg s0 (FP.fmul (1082130432 : UInt32) (FP.i2f (w.1 1 ((9 : Int32)).toNatClampNeg)))) then (f_X6_weighs_b127 w) else (if inb (9 : Int32) 395 = true then (if nn32 (FP.fdiv s0 (FP.i2f (w.1 1 ((9 : Int32)).toNatClampNeg))) = true then (if nn32 (FP.fadd FP.fconst1 (FP.fdiv s0 (FP.i2f (w.1 1 ((9 : Int32)).toNatClampNeg)))) = true then (if nn32 (FP.fdiv FP.fconst1 (FP.fadd FP.fconst1 (FP.fdiv s0 (FP.i2f (w.1 1 ((9 : Int32)).toNatClampNeg))))) = true then (jlet (FP.fdiv FP.fconst1 (FP.fadd FP.fconst1 (FP.fdiv s0 (FP.i2f (w.1 1 ((9 : Int32)).toNatClampNeg))))) (fun y5 => if nn32 (FP.fadd (w.1 0 18).toUInt32 y5) = true then (wput w 0 18 ((FP.fadd (w.1 0 18).toUInt32 y5)).toInt32 (fun w6 => if nn32 (FP.fmul y5 (FP.i2f (w6.1 0 8))) = true then (if nn32 (FP.fadd (w6.1 0 19).toUInt32 (FP.fmul y5 (FP.i2f (w6.1 0 8)))) = true then (wput w6 0 19 ((FP.fadd (w6.1 0 19).toUInt32 (FP.fmul y5 (FP.i2f (w6.1 0 8))))).toInt32 (fun w7 => wput w7 0 20 (1 : Int32) (fun w8 => f_X6_weighs_b127 w8))) else none) else none)) else none)) else none) else none) else none) else none)) else none) else none) else (f_X6_weighs_b127 w)
set_option maxRecDepth 100000 in
set_option maxHeartbeats 4000000 in
theorem wk_X6_weighs_b51 (Z : CSp) (w : Wd) (s0 : UInt32)  : Wm (EM Z) MX6_weighs oVw w 51 [(0, Value.ref (aC Z 0))] [Value.float s0] (f_X6_weighs_b51 s0 w) := by
  unfold f_X6_weighs_b51
  refine r_fstore (lv' := [(0, Value.ref (aC Z 0)), (5, Value.float s0)]) dX6_weighs_51 (Nat.le_of_ble_eq_true rfl) [1, 0] rfl ?_
  refine r_aload_n dX6_weighs_53 0 rfl ?_
  refine r_get FX6 7 (Nat.le_of_ble_eq_true rfl) kf_X6_174 0 (qM_0 Z w) rfl dX6_weighs_54 ?_
  refine r_if_ne (tgt := 127) dX6_weighs_57 (by decide) (fun _ => ?_) (fun _ => ?_)
  · refine r_lv [] rfl ?_
    exact wk_X6_weighs_b127 Z w
  · refine r_fload dX6_weighs_60 1 rfl ?_
    refine r_ldcf dX6_weighs_62 kk_X6_76 ?_
    refine r_aload_n dX6_weighs_64 0 rfl ?_
    refine r_get FX6 0 (Nat.le_of_ble_eq_true rfl) kf_X6_7 0 (qM_0 Z w) rfl dX6_weighs_65 ?_
    refine r_bipush (v := 9) dX6_weighs_68 (by decide) ?_
    refine r_iald 1 (qM_1 Z w) rfl dX6_weighs_70 ?_
    refine r_i2f dX6_weighs_71 ?_
    refine r_fmul dX6_weighs_72 ?_
    refine r_fcmpg dX6_weighs_73 ?_
    refine r_if_gt (tgt := 127) dX6_weighs_74 (by decide) (fun _ => ?_) (fun _ => ?_)
    · refine r_lv [] rfl ?_
      exact wk_X6_weighs_b127 Z w
    · refine r_fconst1 dX6_weighs_77 ?_
      refine r_fconst1 dX6_weighs_78 ?_
      refine r_fload dX6_weighs_79 1 rfl ?_
      refine r_aload_n dX6_weighs_81 0 rfl ?_
      refine r_get FX6 0 (Nat.le_of_ble_eq_true rfl) kf_X6_7 0 (qM_0 Z w) rfl dX6_weighs_82 ?_
      refine r_bipush (v := 9) dX6_weighs_85 (by decide) ?_
      refine r_iald 1 (qM_1 Z w) rfl dX6_weighs_87 ?_
      refine r_i2f dX6_weighs_88 ?_
      refine r_fdiv dX6_weighs_89 ?_
      refine r_fadd dX6_weighs_90 ?_
      refine r_fdiv dX6_weighs_91 ?_
      refine r_letf (fun y5 => ?_)
      refine r_fstore (lv' := [(0, Value.ref (aC Z 0)), (5, Value.float s0), (6, Value.float y5)]) dX6_weighs_92 (Nat.le_of_ble_eq_true rfl) [1, 2, 0] rfl ?_
      refine r_aload_n dX6_weighs_94 0 rfl ?_
      refine r_aload_n dX6_weighs_95 0 rfl ?_
      refine r_get FX6 18 (Nat.le_of_ble_eq_true rfl) kf_X6_193 0 (qM_0 Z w) rfl dX6_weighs_96 ?_
      refine r_fload dX6_weighs_99 2 rfl ?_
      refine r_fadd dX6_weighs_101 ?_
      refine r_putf FX6 tyX6_ok nmX6 kf_X6_193 (qM_0 Z w) ⟨(Nat.le_of_ble_eq_true rfl), (Nat.le_of_ble_eq_true rfl), rfl⟩ (by decide) (uM_0_18 Z w (FP.fadd (w.1 0 18).toUInt32 y5)) dX6_weighs_102 (fun w6 => ?_)
      refine r_aload_n dX6_weighs_105 0 rfl ?_
      refine r_aload_n dX6_weighs_106 0 rfl ?_
      refine r_get FX6 19 (Nat.le_of_ble_eq_true rfl) kf_X6_197 0 (qM_0 Z w6) rfl dX6_weighs_107 ?_
      refine r_fload dX6_weighs_110 2 rfl ?_
      refine r_aload_n dX6_weighs_112 0 rfl ?_
      refine r_get FX6 8 (Nat.le_of_ble_eq_true rfl) kf_X6_167 0 (qM_0 Z w6) rfl dX6_weighs_113 ?_
      refine r_i2f dX6_weighs_116 ?_
      refine r_fmul dX6_weighs_117 ?_
      refine r_fadd dX6_weighs_118 ?_
      refine r_putf FX6 tyX6_ok nmX6 kf_X6_197 (qM_0 Z w6) ⟨(Nat.le_of_ble_eq_true rfl), (Nat.le_of_ble_eq_true rfl), rfl⟩ (by decide) (uM_0_19 Z w6 (FP.fadd (w6.1 0 19).toUInt32 (FP.fmul y5 (FP.i2f (w6.1 0 8))))) dX6_weighs_119 (fun w7 => ?_)
      refine r_aload_n dX6_weighs_122 0 rfl ?_
      refine r_iconst (v := 1) dX6_weighs_123 (by decide) ?_
      refine r_putz FX6 tyX6_ok nmX6 kf_X6_200 (qM_0 Z w7) ⟨(Nat.le_of_ble_eq_true rfl), (Nat.le_of_ble_eq_true rfl), rfl⟩ (by decide) ⟨by decide, by decide⟩ (uM_0_20 Z w7 (1 : Int32)) dX6_weighs_124 (fun w8 => ?_)
      refine r_lv [] rfl ?_
      exact wk_X6_weighs_b127 Z w8
def f_X6_weighs (x1 : Int32) (x2 : Int32) (x3 : Int32) (x4 : UInt32) (w : Wd) : Option (Wd) :=
  (f_X6_isCell x1 x2 x3 w).bind (fun v1 => if v1 = 0 then (some w) else ((f_X6_cellPlace x1 x2 x3).bind (fun v2 => (f_X6_looksAt v2 w).bind (fun w3 => (f_X6_cellPlace x1 x2 x3).bind (fun v4 => (f_X6_glowOf v4 w3).bind (fun v5 => if nn32 (FP.fsub v5 x4) = true then (jlet (FP.fsub v5 x4) (fun y6 => if 0 ≤ (fcg y6 FP.fconst0) then (f_X6_weighs_b51 y6 w3) else (f_X6_weighs_b51 (FP.fneg y6) w3))) else none))))))
set_option maxRecDepth 100000 in
set_option maxHeartbeats 4000000 in
theorem wk_X6_weighs (Z : CSp) (w : Wd) (x1 : Int32) (x2 : Int32) (x3 : Int32) (x4 : UInt32)  : Wm (EM Z) MX6_weighs oVw w 0 [(0, Value.ref (aC Z 0)), (1, Value.int x1), (2, Value.int x2), (3, Value.int x3), (4, Value.float x4)] [] (f_X6_weighs x1 x2 x3 x4 w) := by
  unfold f_X6_weighs
  refine r_aload_n dX6_weighs_0 0 rfl ?_
  refine r_iload_n dX6_weighs_1 1 rfl ?_
  refine r_iload_n dX6_weighs_2 2 rfl ?_
  refine r_iload_n dX6_weighs_3 3 rfl ?_
  refine r_callV_I [Value.int x1, Value.int x2, Value.int x3] cfX6_isCell (m_X6_isCell Z w x1 x2 x3) km_X6_69 ⟨rfl, rfl, (Nat.le_of_ble_eq_true rfl), (Nat.le_of_ble_eq_true rfl)⟩ rfl rfl 0 (qM_0 Z w) rfl rfl (Nat.le_of_ble_eq_true rfl) dX6_weighs_4 (fun v1 => ?_)
  refine r_if_ne (tgt := 11) dX6_weighs_7 (by decide) (fun _ => ?_) (fun _ => ?_)
  · refine r_aload_n dX6_weighs_11 0 rfl ?_
    refine r_iload_n dX6_weighs_12 1 rfl ?_
    refine r_iload_n dX6_weighs_13 2 rfl ?_
    refine r_iload_n dX6_weighs_14 3 rfl ?_
    refine r_callS_I [Value.int x1, Value.int x2, Value.int x3] cfX6_cellPlace (m_X6_cellPlace Z w x1 x2 x3) km_X6_72 ⟨rfl, rfl, (Nat.le_of_ble_eq_true rfl), (Nat.le_of_ble_eq_true rfl)⟩ rfl rfl (Nat.le_of_ble_eq_true rfl) dX6_weighs_15 (fun v2 => ?_)
    refine r_callV_Vw [Value.int v2] cfX6_looksAt (m_X6_looksAt Z w v2) km_X6_187 ⟨rfl, rfl, (Nat.le_of_ble_eq_true rfl), (Nat.le_of_ble_eq_true rfl)⟩ rfl rfl 0 (qM_0 Z w) rfl rfl (Nat.le_of_ble_eq_true rfl) dX6_weighs_18 (fun w3 => ?_)
    refine r_aload_n dX6_weighs_21 0 rfl ?_
    refine r_iload_n dX6_weighs_22 1 rfl ?_
    refine r_iload_n dX6_weighs_23 2 rfl ?_
    refine r_iload_n dX6_weighs_24 3 rfl ?_
    refine r_callS_I [Value.int x1, Value.int x2, Value.int x3] cfX6_cellPlace (m_X6_cellPlace Z w3 x1 x2 x3) km_X6_72 ⟨rfl, rfl, (Nat.le_of_ble_eq_true rfl), (Nat.le_of_ble_eq_true rfl)⟩ rfl rfl (Nat.le_of_ble_eq_true rfl) dX6_weighs_25 (fun v4 => ?_)
    refine r_callV_F [Value.int v4] cfX6_glowOf (m_X6_glowOf Z w3 v4) km_X6_190 ⟨rfl, rfl, (Nat.le_of_ble_eq_true rfl), (Nat.le_of_ble_eq_true rfl)⟩ rfl rfl 0 (qM_0 Z w3) rfl rfl (Nat.le_of_ble_eq_true rfl) dX6_weighs_28 (fun v5 => ?_)
    refine r_fload dX6_weighs_31 4 rfl ?_
    refine r_fsub dX6_weighs_33 ?_
    refine r_letf (fun y6 => ?_)
    refine r_fstore (lv' := [(0, Value.ref (aC Z 0)), (1, Value.int x1), (2, Value.int x2), (3, Value.int x3), (4, Value.float x4), (5, Value.float y6)]) dX6_weighs_34 (Nat.le_of_ble_eq_true rfl) [1, 2, 3, 4, 5, 0] rfl ?_
    refine r_fload dX6_weighs_36 5 rfl ?_
    refine r_fconst0 dX6_weighs_38 ?_
    refine r_fcmpg dX6_weighs_39 ?_
    refine r_if_ge (tgt := 49) dX6_weighs_40 (by decide) (fun _ => ?_) (fun _ => ?_)
    · refine r_fload dX6_weighs_49 5 rfl ?_
      refine r_lv [0] rfl ?_
      exact wk_X6_weighs_b51 Z w3 y6
    · refine r_fload dX6_weighs_43 5 rfl ?_
      refine r_fneg dX6_weighs_45 ?_
      refine r_goto (tgt := 51) dX6_weighs_46 (by decide) ?_
      refine r_lv [0] rfl ?_
      exact wk_X6_weighs_b51 Z w3 (FP.fneg y6)
  · exact r_vret rfl dX6_weighs_10
theorem m_X6_weighs (Z : CSp) (w : Wd) (x1 : Int32) (x2 : Int32) (x3 : Int32) (x4 : UInt32) : MetM (EM Z) yX6_weighs cX6_weighs 7 none { frames := 5, cells := 0, slots := 0, locals := 111 } oVw [Value.ref (aC Z 0), Value.int x1, Value.int x2, Value.int x3, Value.float x4] w (f_X6_weighs x1 x2 x3 x4 w) := MetM_of (plainFor_of_name (by decide)) (Nat.le_of_ble_eq_true rfl) (wk_X6_weighs Z w x1 x2 x3 x4)
