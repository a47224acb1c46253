abbrev MX1_append : Mt := (cX1_append, RX1, 2, some .boolean, { frames := 0, cells := 0, slots := 0, locals := 0 })
def f_X1_append_b17 (w : Wd) : Option (Int32 × Wd) :=
  if zb (0 : Int32) = true then some ((0 : Int32), w) else none
set_option maxRecDepth 100000 in
set_option maxHeartbeats 4000000 in
theorem wk_X1_append_b17 (Z : CSp) (w : Wd)   : Wm (EC Z) MX1_append oIw w 17 [] [] (f_X1_append_b17 w) := by
  unfold f_X1_append_b17
  refine r_iconst (v := 0) dX1_append_17 (by decide) ?_
  exact r_zretw rfl dX1_append_18
def f_X1_append (x1 : Int32) (w : Wd) : Option (Int32 × Wd) :=
  if (w.1 6 1) < 0 then (f_X1_append_b17 w) else (if (w.1 6 1) < (150 : Int32) then (if inb (w.1 6 1) 150 = true then (wput w 7 (w.1 6 1).toNatClampNeg x1 (fun w1 => wput w1 6 1 ((w1.1 6 1) + (1 : Int32)) (fun w2 => if zb (1 : Int32) = true then some ((1 : Int32), w2) else none))) else none) else (f_X1_append_b17 w))
set_option maxRecDepth 100000 in
set_option maxHeartbeats 4000000 in
theorem wk_X1_append (Z : CSp) (w : Wd) (x1 : Int32)  : Wm (EC Z) MX1_append oIw w 0 [(0, Value.ref (aC Z 6)), (1, Value.int x1)] [] (f_X1_append x1 w) := by
  unfold f_X1_append
  refine r_aload_n dX1_append_0 0 rfl ?_
  refine r_get FX1 1 (Nat.le_of_ble_eq_true rfl) kf_X1_15 6 (qC_6 Z w) rfl dX1_append_1 ?_
  refine r_if_lt (tgt := 17) dX1_append_4 (by decide) (fun _ => ?_) (fun _ => ?_)
  · refine r_lv [] rfl ?_
    exact wk_X1_append_b17 Z w
  · refine r_aload_n dX1_append_7 0 rfl ?_
    refine r_get FX1 1 (Nat.le_of_ble_eq_true rfl) kf_X1_15 6 (qC_6 Z w) rfl dX1_append_8 ?_
    refine r_sipush (v := 150) dX1_append_11 (by decide) ?_
    refine r_icmp_lt (tgt := 19) dX1_append_14 (by decide) (fun _ => ?_) (fun _ => ?_)
    · refine r_aload_n dX1_append_19 0 rfl ?_
      refine r_get FX1 0 (Nat.le_of_ble_eq_true rfl) kf_X1_9 6 (qC_6 Z w) rfl dX1_append_20 ?_
      refine r_aload_n dX1_append_23 0 rfl ?_
      refine r_get FX1 1 (Nat.le_of_ble_eq_true rfl) kf_X1_15 6 (qC_6 Z w) rfl dX1_append_24 ?_
      refine r_iload_n dX1_append_27 1 rfl ?_
      refine r_iast (qC_7 Z w) rfl (uC_7 Z w x1) dX1_append_28 (fun w1 => ?_)
      refine r_aload_n dX1_append_29 0 rfl ?_
      refine r_dup dX1_append_30 rfl ?_
      refine r_get FX1 1 (Nat.le_of_ble_eq_true rfl) kf_X1_15 6 (qC_6 Z w1) rfl dX1_append_31 ?_
      refine r_iconst (v := 1) dX1_append_34 (by decide) ?_
      refine r_iadd dX1_append_35 ?_
      refine r_puti FX1 tyX1_ok nmX1 kf_X1_15 (qC_6 Z w1) ⟨(Nat.le_of_ble_eq_true rfl), (Nat.le_of_ble_eq_true rfl), rfl⟩ (by decide) (uC_6_1 Z w1 ((w1.1 6 1) + (1 : Int32))) dX1_append_36 (fun w2 => ?_)
      refine r_iconst (v := 1) dX1_append_39 (by decide) ?_
      exact r_zretw rfl dX1_append_40
    · refine r_lv [] rfl ?_
      exact wk_X1_append_b17 Z w
theorem m_X1_append (Z : CSp) (w : Wd) (x1 : Int32) : MetM (EC Z) yX1_append cX1_append 2 (some .boolean) { frames := 0, cells := 0, slots := 0, locals := 0 } oIw [Value.ref (aC Z 6), Value.int x1] w (f_X1_append x1 w) := MetM_of (plainFor_of_name (by decide)) (Nat.le_of_ble_eq_true rfl) (wk_X1_append Z w x1)
abbrev MX1_keep : Mt := (cX1_keep, RX1, 2, none, { frames := 1, cells := 0, slots := 0, locals := 22 })
def f_X1_keep_b34 (w : Wd) : Option (Wd) :=
  some w
set_option maxRecDepth 100000 in
set_option maxHeartbeats 4000000 in
theorem wk_X1_keep_b34 (Z : CSp) (w : Wd)   : Wm (EC Z) MX1_keep oVw w 34 [] [] (f_X1_keep_b34 w) := by
  unfold f_X1_keep_b34
  exact r_vret rfl dX1_keep_34
def f_X1_keep (x1 : Int32) (w : Wd) : Option (Wd) :=
  (f_X5_within (w.1 6 3) (0 : Int32) (149 : Int32)).bind (fun v1 => if v1 = 0 then (f_X1_keep_b34 w) else (if inb (w.1 6 3) 150 = true then (wput w 8 (w.1 6 3).toNatClampNeg x1 (fun w2 => wput w2 6 3 ((w2.1 6 3) + (1 : Int32)) (fun w3 => f_X1_keep_b34 w3))) else none))
set_option maxRecDepth 100000 in
set_option maxHeartbeats 4000000 in
theorem wk_X1_keep (Z : CSp) (w : Wd) (x1 : Int32)  : Wm (EC Z) MX1_keep oVw w 0 [(0, Value.ref (aC Z 6)), (1, Value.int x1)] [] (f_X1_keep x1 w) := by
  unfold f_X1_keep
  refine r_aload_n dX1_keep_0 0 rfl ?_
  refine r_get FX1 3 (Nat.le_of_ble_eq_true rfl) kf_X1_25 6 (qC_6 Z w) rfl dX1_keep_1 ?_
  refine r_iconst (v := 0) dX1_keep_4 (by decide) ?_
  refine r_sipush (v := 149) dX1_keep_5 (by decide) ?_
  refine r_callSN_I [Value.int (w.1 6 3), Value.int (0 : Int32), Value.int (149 : Int32)] cfX5_within (m_X5_within Z w (w.1 6 3) (0 : Int32) (149 : Int32)) (n_X1_38 Z) ⟨rfl, rfl, (Nat.le_of_ble_eq_true rfl), (Nat.le_of_ble_eq_true rfl)⟩ rfl rfl (Nat.le_of_ble_eq_true rfl) dX1_keep_8 (fun v1 => ?_)
  refine r_if_eq (tgt := 34) dX1_keep_11 (by decide) (fun _ => ?_) (fun _ => ?_)
  · refine r_lv [] rfl ?_
    exact wk_X1_keep_b34 Z w
  · refine r_aload_n dX1_keep_14 0 rfl ?_
    refine r_get FX1 2 (Nat.le_of_ble_eq_true rfl) kf_X1_19 6 (qC_6 Z w) rfl dX1_keep_15 ?_
    refine r_aload_n dX1_keep_18 0 rfl ?_
    refine r_get FX1 3 (Nat.le_of_ble_eq_true rfl) kf_X1_25 6 (qC_6 Z w) rfl dX1_keep_19 ?_
    refine r_iload_n dX1_keep_22 1 rfl ?_
    refine r_iast (qC_8 Z w) rfl (uC_8 Z w x1) dX1_keep_23 (fun w2 => ?_)
    refine r_aload_n dX1_keep_24 0 rfl ?_
    refine r_dup dX1_keep_25 rfl ?_
    refine r_get FX1 3 (Nat.le_of_ble_eq_true rfl) kf_X1_25 6 (qC_6 Z w2) rfl dX1_keep_26 ?_
    refine r_iconst (v := 1) dX1_keep_29 (by decide) ?_
    refine r_iadd dX1_keep_30 ?_
    refine r_puti FX1 tyX1_ok nmX1 kf_X1_25 (qC_6 Z w2) ⟨(Nat.le_of_ble_eq_true rfl), (Nat.le_of_ble_eq_true rfl), rfl⟩ (by decide) (uC_6_3 Z w2 ((w2.1 6 3) + (1 : Int32))) dX1_keep_31 (fun w3 => ?_)
    refine r_lv [] rfl ?_
    exact wk_X1_keep_b34 Z w3
theorem m_X1_keep (Z : CSp) (w : Wd) (x1 : Int32) : MetM (EC Z) yX1_keep cX1_keep 2 none { frames := 1, cells := 0, slots := 0, locals := 22 } oVw [Value.ref (aC Z 6), Value.int x1] w (f_X1_keep x1 w) := MetM_of (plainFor_of_name (by decide)) (Nat.le_of_ble_eq_true rfl) (wk_X1_keep Z w x1)
abbrev MX1_endNumber : Mt := (cX1_endNumber, RX1, 1, none, { frames := 2, cells := 0, slots := 0, locals := 43 })
def f_X1_endNumber_b20 (w : Wd) : Option (Wd) :=
  some w
set_option maxRecDepth 100000 in
set_option maxHeartbeats 4000000 in
theorem wk_X1_endNumber_b20 (Z : CSp) (w : Wd)   : Wm (EC Z) MX1_endNumber oVw w 20 [] [] (f_X1_endNumber_b20 w) := by
  unfold f_X1_endNumber_b20
  exact r_vret rfl dX1_endNumber_20
def f_X1_endNumber (w : Wd) : Option (Wd) :=
  if (w.1 6 6) ≤ 0 then (f_X1_endNumber_b20 w) else ((f_X1_keep (w.1 6 7) w).bind (fun w1 => wput w1 6 6 (0 : Int32) (fun w2 => f_X1_endNumber_b20 w2)))
set_option maxRecDepth 100000 in
set_option maxHeartbeats 4000000 in
theorem wk_X1_endNumber (Z : CSp) (w : Wd)   : Wm (EC Z) MX1_endNumber oVw w 0 [(0, Value.ref (aC Z 6))] [] (f_X1_endNumber w) := by
  unfold f_X1_endNumber
  refine r_aload_n dX1_endNumber_0 0 rfl ?_
  refine r_get FX1 6 (Nat.le_of_ble_eq_true rfl) kf_X1_31 6 (qC_6 Z w) rfl dX1_endNumber_1 ?_
  refine r_if_le (tgt := 20) dX1_endNumber_4 (by decide) (fun _ => ?_) (fun _ => ?_)
  · refine r_lv [] rfl ?_
    exact wk_X1_endNumber_b20 Z w
  · refine r_aload_n dX1_endNumber_7 0 rfl ?_
    refine r_aload_n dX1_endNumber_8 0 rfl ?_
    refine r_get FX1 7 (Nat.le_of_ble_eq_true rfl) kf_X1_56 6 (qC_6 Z w) rfl dX1_endNumber_9 ?_
    refine r_callV_Vw [Value.int (w.1 6 7)] cfX1_keep (m_X1_keep Z w (w.1 6 7)) km_X1_52 ⟨rfl, rfl, (Nat.le_of_ble_eq_true rfl), (Nat.le_of_ble_eq_true rfl)⟩ rfl rfl 6 (qC_6 Z w) rfl rfl (Nat.le_of_ble_eq_true rfl) dX1_endNumber_12 (fun w1 => ?_)
    refine r_aload_n dX1_endNumber_15 0 rfl ?_
    refine r_iconst (v := 0) dX1_endNumber_16 (by decide) ?_
    refine r_puti FX1 tyX1_ok nmX1 kf_X1_31 (qC_6 Z w1) ⟨(Nat.le_of_ble_eq_true rfl), (Nat.le_of_ble_eq_true rfl), rfl⟩ (by decide) (uC_6_6 Z w1 (0 : Int32)) dX1_endNumber_17 (fun w2 => ?_)
    refine r_lv [] rfl ?_
    exact wk_X1_endNumber_b20 Z w2
theorem m_X1_endNumber (Z : CSp) (w : Wd)  : MetM (EC Z) yX1_endNumber cX1_endNumber 1 none { frames := 2, cells := 0, slots := 0, locals := 43 } oVw [Value.ref (aC Z 6)] w (f_X1_endNumber w) := MetM_of (plainFor_of_name (by decide)) (Nat.le_of_ble_eq_true rfl) (wk_X1_endNumber Z w )
abbrev MX1_item : Mt := (cX1_item, RX1, 2, some .int, { frames := 1, cells := 0, slots := 0, locals := 22 })
def f_X1_item_b24 (s0 : Int32) (w : Wd) : Option (Int32) :=
  some s0
set_option maxRecDepth 100000 in
set_option maxHeartbeats 4000000 in
theorem wk_X1_item_b24 (Z : CSp) (w : Wd) (s0 : Int32)  : Wm (EC Z) MX1_item (oI w) w 24 [] [Value.int s0] (f_X1_item_b24 s0 w) := by
  unfold f_X1_item_b24
  exact r_iret rfl dX1_item_24
def f_X1_item (x1 : Int32) (w : Wd) : Option (Int32) :=
  (f_X5_within x1 (0 : Int32) ((w.1 6 3) - (1 : Int32))).bind (fun v1 => if v1 = 0 then (f_X1_item_b24 (-1 : Int32) w) else (if inb x1 150 = true then (f_X1_item_b24 (w.1 8 (x1).toNatClampNeg) w) else none))
set_option maxRecDepth 100000 in
set_option maxHeartbeats 4000000 in
theorem wk_X1_item (Z : CSp) (w : Wd) (x1 : Int32)  : Wm (EC Z) MX1_item (oI w) w 0 [(0, Value.ref (aC Z 6)), (1, Value.int x1)] [] (f_X1_item x1 w) := by
  unfold f_X1_item
  refine r_iload_n dX1_item_0 1 rfl ?_
  refine r_iconst (v := 0) dX1_item_1 (by decide) ?_
  refine r_aload_n dX1_item_2 0 rfl ?_
  refine r_get FX1 3 (Nat.le_of_ble_eq_true rfl) kf_X1_25 6 (qC_6 Z w) rfl dX1_item_3 ?_
  refine r_iconst (v := 1) dX1_item_6 (by decide) ?_
  refine r_isub dX1_item_7 ?_
  refine r_callSN_I [Value.int x1, Value.int (0 : Int32), Value.int ((w.1 6 3) - (1 : Int32))] cfX5_within (m_X5_within Z w x1 (0 : Int32) ((w.1 6 3) - (1 : Int32))) (n_X1_38 Z) ⟨rfl, rfl, (Nat.le_of_ble_eq_true rfl), (Nat.le_of_ble_eq_true rfl)⟩ rfl rfl (Nat.le_of_ble_eq_true rfl) dX1_item_8 (fun v1 => ?_)
  refine r_if_eq (tgt := 23) dX1_item_11 (by decide) (fun _ => ?_) (fun _ => ?_)
  · refine r_iconst (v := -1) dX1_item_23 (by decide) ?_
    refine r_lv [] rfl ?_
    exact wk_X1_item_b24 Z w (-1 : Int32)
  · refine r_aload_n dX1_item_14 0 rfl ?_
    refine r_get FX1 2 (Nat.le_of_ble_eq_true rfl) kf_X1_19 6 (qC_6 Z w) rfl dX1_item_15 ?_
    refine r_iload_n dX1_item_18 1 rfl ?_
    refine r_iald 8 (qC_8 Z w) rfl dX1_item_19 ?_
    refine r_goto (tgt := 24) dX1_item_20 (by decide) ?_
    refine r_lv [] rfl ?_
    exact wk_X1_item_b24 Z w (w.1 8 (x1).toNatClampNeg)
theorem m_X1_item (Z : CSp) (w : Wd) (x1 : Int32) : MetM (EC Z) yX1_item cX1_item 2 (some .int) { frames := 1, cells := 0, slots := 0, locals := 22 } (oI w) [Value.ref (aC Z 6), Value.int x1] w (f_X1_item x1 w) := MetM_of (plainFor_of_name (by decide)) (Nat.le_of_ble_eq_true rfl) (wk_X1_item Z w x1)
abbrev MX1_numbersOf : Mt := (cX1_numbersOf, RX1, 1, some .int, { frames := 0, cells := 0, slots := 0, locals := 0 })
def f_X1_numbersOf_b104  : Option (Int32) :=
  some (-1 : Int32)
set_option maxRecDepth 100000 in
set_option maxHeartbeats 4000000 in
theorem wk_X1_numbersOf_b104 (Z : CSp) (w : Wd)   : Wm (EC Z) MX1_numbersOf (oI w) w 104 [] [] (f_X1_numbersOf_b104 ) := by
  unfold f_X1_numbersOf_b104
  refine r_iconst (v := -1) dX1_numbersOf_104 (by decide) ?_
  exact r_iret rfl dX1_numbersOf_105
def f_X1_numbersOf_b96  : Option (Int32) :=
  some (2 : Int32)
set_option maxRecDepth 100000 in
set_option maxHeartbeats 4000000 in
theorem wk_X1_numbersOf_b96 (Z : CSp) (w : Wd)   : Wm (EC Z) MX1_numbersOf (oI w) w 96 [] [] (f_X1_numbersOf_b96 ) := by
  unfold f_X1_numbersOf_b96
  refine r_iconst (v := 2) dX1_numbersOf_96 (by decide) ?_
  exact r_iret rfl dX1_numbersOf_97
def f_X1_numbersOf (x0 : Int32) : Option (Int32) :=
  if x0 = 99 then (some (3 : Int32)) else (if x0 = 100 then (f_X1_numbersOf_b104) else (if x0 = 101 then (some (5 : Int32)) else (if x0 = 102 then (f_X1_numbersOf_b104) else (if x0 = 103 then (f_X1_numbersOf_b96) else (if x0 = 104 then (f_X1_numbersOf_b104) else (if x0 = 105 then (f_X1_numbersOf_b104) else (if x0 = 106 then (f_X1_numbersOf_b104) else (if x0 = 107 then (f_X1_numbersOf_b104) else (if x0 = 108 then (some (4 : Int32)) else (if x0 = 109 then (f_X1_numbersOf_b104) else (if x0 = 110 then (f_X1_numbersOf_b104) else (if x0 = 111 then (f_X1_numbersOf_b104) else (if x0 = 112 then (f_X1_numbersOf_b104) else (if x0 = 113 then (f_X1_numbersOf_b104) else (if x0 = 114 then (f_X1_numbersOf_b104) else (if x0 = 115 then (f_X1_numbersOf_b96) else (if x0 = 116 then (f_X1_numbersOf_b104) else (if x0 = 117 then (f_X1_numbersOf_b104) else (if x0 = 118 then (f_X1_numbersOf_b96) else (f_X1_numbersOf_b104))))))))))))))))))))
set_option maxRecDepth 100000 in
set_option maxHeartbeats 4000000 in
theorem wk_X1_numbersOf (Z : CSp) (w : Wd) (x0 : Int32)  : Wm (EC Z) MX1_numbersOf (oI w) w 0 [(0, Value.int x0)] [] (f_X1_numbersOf x0) := by
  unfold f_X1_numbersOf
  refine r_iload_n dX1_numbersOf_0 0 rfl ?_
  refine r_split (fun h0 => ?_) (fun h0 => ?_)
  · refine r_tin (k := 99) (tgt := 102) dX1_numbersOf_1 h0 (by decide) ?_
    refine r_iconst (v := 3) dX1_numbersOf_102 (by decide) ?_
    exact r_iret rfl dX1_numbersOf_103
  refine r_split (fun h1 => ?_) (fun h1 => ?_)
  · refine r_tin (k := 100) (tgt := 104) dX1_numbersOf_1 h1 (by decide) ?_
    refine r_lv [] rfl ?_
    exact wk_X1_numbersOf_b104 Z w
  refine r_split (fun h2 => ?_) (fun h2 => ?_)
  · refine r_tin (k := 101) (tgt := 98) dX1_numbersOf_1 h2 (by decide) ?_
    refine r_iconst (v := 5) dX1_numbersOf_98 (by decide) ?_
    exact r_iret rfl dX1_numbersOf_99
  refine r_split (fun h3 => ?_) (fun h3 => ?_)
  · refine r_tin (k := 102) (tgt := 104) dX1_numbersOf_1 h3 (by decide) ?_
    refine r_lv [] rfl ?_
    exact wk_X1_numbersOf_b104 Z w
  refine r_split (fun h4 => ?_) (fun h4 => ?_)
  · refine r_tin (k := 103) (tgt := 96) dX1_numbersOf_1 h4 (by decide) ?_
    refine r_lv [] rfl ?_
    exact wk_X1_numbersOf_b96 Z w
  refine r_split (fun h5 => ?_) (fun h5 => ?_)
  · refine r_tin (k := 104) (tgt := 104) dX1_numbersOf_1 h5 (by decide) ?_
    refine r_lv [] rfl ?_
    exact wk_X1_numbersOf_b104 Z w
  refine r_split (fun h6 => ?_) (fun h6 => ?_)
  · refine r_tin (k := 105) (tgt := 104) dX1_numbersOf_1 h6 (by decide) ?_
    refine r_lv [] rfl ?_
    exact wk_X1_numbersOf_b104 Z w
  refine r_split (fun h7 => ?_) (fun h7 => ?_)
  · refine r_tin (k := 106) (tgt := 104) dX1_numbersOf_1 h7 (by decide) ?_
    refine r_lv [] rfl ?_
    exact wk_X1_numbersOf_b104 Z w
  refine r_split (fun h8 => ?_) (fun h8 => ?_)
  · refine r_tin (k := 107) (tgt := 104) dX1_numbersOf_1 h8 (by decide) ?_
    refine r_lv [] rfl ?_
    exact wk_X1_numbersOf_b104 Z w
  refine r_split (fun h9 => ?_) (fun h9 => ?_)
  · refine r_tin (k := 108) (tgt := 100) dX1_numbersOf_1 h9 (by decide) ?_
    refine r_iconst (v := 4) dX1_numbersOf_100 (by decide) ?_
    exact r_iret rfl dX1_numbersOf_101
  refine r_split (fun h10 => ?_) (fun h10 => ?_)
  · refine r_tin (k := 109) (tgt := 104) dX1_numbersOf_1 h10 (by decide) ?_
    refine r_lv [] rfl ?_
    exact wk_X1_numbersOf_b104 Z w
  refine r_split (fun h11 => ?_) (fun h11 => ?_)
  · refine r_tin (k := 110) (tgt := 104) dX1_numbersOf_1 h11 (by decide) ?_
    refine r_lv [] rfl ?_
    exact wk_X1_numbersOf_b104 Z w
  refine r_split (fun h12 => ?_) (fun h12 => ?_)
  · refine r_tin (k := 111) (tgt := 104) dX1_numbersOf_1 h12 (by decide) ?_
    refine r_lv [] rfl ?_
    exact wk_X1_numbersOf_b104 Z w
  refine r_split (fun h13 => ?_) (fun h13 => ?_)
  · refine r_tin (k := 112) (tgt := 104) dX1_numbersOf_1 h13 (by decide) ?_
    refine r_lv [] rfl ?_
    exact wk_X1_numbersOf_b104 Z w
  refine r_split (fun h14 => ?_) (fun h14 => ?_)
  · refine r_tin (k := 113) (tgt := 104) dX1_numbersOf_1 h14 (by decide) ?_
    refine r_lv [] rfl ?_
    exact wk_X1_numbersOf_b104 Z w
  refine r_split (fun h15 => ?_) (fun h15 => ?_)
  · refine r_tin (k := 114) (tgt := 104) dX1_numbersOf_1 h15 (by decide) ?_
    refine r_lv [] rfl ?_
    exact wk_X1_numbersOf_b104 Z w
  refine r_split (fun h16 => ?_) (fun h16 => ?_)
  · refine r_tin (k := 115) (tgt := 96) dX1_numbersOf_1 h16 (by decide) ?_
    refine r_lv [] rfl ?_
    exact wk_X1_numbersOf_b96 Z w
  refine r_split (fun h17 => ?_) (fun h17 => ?_)
  · refine r_tin (k := 116) (tgt := 104) dX1_numbersOf_1 h17 (by decide) ?_
    refine r_lv [] rfl ?_
    exact wk_X1_numbersOf_b104 Z w
  refine r_split (fun h18 => ?_) (fun h18 => ?_)
  · refine r_tin (k := 117) (tgt := 104) dX1_numbersOf_1 h18 (by decide) ?_
    refine r_lv [] rfl ?_
    exact wk_X1_numbersOf_b104 Z w
  refine r_split (fun h19 => ?_) (fun h19 => ?_)
  · refine r_tin (k := 118) (tgt := 96) dX1_numbersOf_1 h19 (by decide) ?_
    refine r_lv [] rfl ?_
    exact wk_X1_numbersOf_b96 Z w
  refine r_tout (tgt := 104) dX1_numbersOf_1 (by have g0 := lv_neT h0 (a := 99) (by decide); have g1 := lv_neT h1 (a := 100) (by decide); have g2 := lv_neT h2 (a := 101) (by decide); have g3 := lv_neT h3 (a := 102) (by decide); have g4 := lv_neT h4 (a := 103) (by decide); have g5 := lv_neT h5 (a := 104) (by decide); have g6 := lv_neT h6 (a := 105) (by decide); have g7 := lv_neT h7 (a := 106) (by decide); have g8 := lv_neT h8 (a := 107) (by decide); have g9 := lv_neT h9 (a := 108) (by decide); have g10 := lv_neT h10 (a := 109) (by decide); have g11 := lv_neT h11 (a := 110) (by decide); have g12 := lv_neT h12 (a := 111) (by decide); have g13 := lv_neT h13 (a := 112) (by decide); have g14 := lv_neT h14 (a := 113) (by decide); have g15 := lv_neT h15 (a := 114) (by decide); have g16 := lv_neT h16 (a := 115) (by decide); have g17 := lv_neT h17 (a := 116) (by decide); have g18 := lv_neT h18 (a := 117) (by decide); have g19 := lv_neT h19 (a := 118) (by decide); omega) (by decide) ?_
  refine r_lv [] rfl ?_
  exact wk_X1_numbersOf_b104 Z w
theorem m_X1_numbersOf (Z : CSp) (w : Wd) (x0 : Int32) : MetM (EC Z) yX1_numbersOf cX1_numbersOf 1 (some .int) { frames := 0, cells := 0, slots := 0, locals := 0 } (oI w) [Value.int x0] w (f_X1_numbersOf x0) := MetM_of (plainFor_of_name (by decide)) (Nat.le_of_ble_eq_true rfl) (wk_X1_numbersOf Z w x0)
abbrev MX1_takesFigure : Mt := (cX1_takesFigure, RX1, 2, some .boolean, { frames := 0, cells := 0, slots := 0, locals := 0 })
def f_X1_takesFigure_b32 (x1 : Int32) (w : Wd) : Option (Int32 × Wd) :=
  if (w.1 6 6) < (4 : Int32) then (wput w 6 7 (((w.1 6 7) * (10 : Int32)) + x1) (fun w3 => wput w3 6 6 ((w3.1 6 6) + (1 : Int32)) (fun w4 => if zb (1 : Int32) = true then some ((1 : Int32), w4) else none))) else (if zb (0 : Int32) = true then some ((0 : Int32), w) else none)
set_option maxRecDepth 100000 in
set_option maxHeartbeats 4000000 in
theorem wk_X1_takesFigure_b32 (Z : CSp) (w : Wd) (x1 : Int32)  : Wm (EC Z) MX1_takesFigure oIw w 32 [(0, Value.ref (aC Z 6)), (1, Value.int x1)] [] (f_X1_takesFigure_b32 x1 w) := by
  unfold f_X1_takesFigure_b32
  refine r_aload_n dX1_takesFigure_32 0 rfl ?_
  refine r_get FX1 6 (Nat.le_of_ble_eq_true rfl) kf_X1_31 6 (qC_6 Z w) rfl dX1_takesFigure_33 ?_
  refine r_iconst (v := 4) dX1_takesFigure_36 (by decide) ?_
  refine r_icmp_lt (tgt := 42) dX1_takesFigure_37 (by decide) (fun _ => ?_) (fun _ => ?_)
  · refine r_aload_n dX1_takesFigure_42 0 rfl ?_
    refine r_aload_n dX1_takesFigure_43 0 rfl ?_
    refine r_get FX1 7 (Nat.le_of_ble_eq_true rfl) kf_X1_56 6 (qC_6 Z w) rfl dX1_takesFigure_44 ?_
    refine r_bipush (v := 10) dX1_takesFigure_47 (by decide) ?_
    refine r_imul dX1_takesFigure_49 ?_
    refine r_iload_n dX1_takesFigure_50 1 rfl ?_
    refine r_iadd dX1_takesFigure_51 ?_
    refine r_puti FX1 tyX1_ok nmX1 kf_X1_56 (qC_6 Z w) ⟨(Nat.le_of_ble_eq_true rfl), (Nat.le_of_ble_eq_true rfl), rfl⟩ (by decide) (uC_6_7 Z w (((w.1 6 7) * (10 : Int32)) + x1)) dX1_takesFigure_52 (fun w3 => ?_)
    refine r_aload_n dX1_takesFigure_55 0 rfl ?_
    refine r_dup dX1_takesFigure_56 rfl ?_
    refine r_get FX1 6 (Nat.le_of_ble_eq_true rfl) kf_X1_31 6 (qC_6 Z w3) rfl dX1_takesFigure_57 ?_
    refine r_iconst (v := 1) dX1_takesFigure_60 (by decide) ?_
    refine r_iadd dX1_takesFigure_61 ?_
    refine r_puti FX1 tyX1_ok nmX1 kf_X1_31 (qC_6 Z w3) ⟨(Nat.le_of_ble_eq_true rfl), (Nat.le_of_ble_eq_true rfl), rfl⟩ (by decide) (uC_6_6 Z w3 ((w3.1 6 6) + (1 : Int32))) dX1_takesFigure_62 (fun w4 => ?_)
    refine r_iconst (v := 1) dX1_takesFigure_65 (by decide) ?_
    exact r_zretw rfl dX1_takesFigure_66
  · refine r_iconst (v := 0) dX1_takesFigure_40 (by decide) ?_
    exact r_zretw rfl dX1_takesFigure_41
def f_X1_takesFigure (x1 : Int32) (w : Wd) : Option (Int32 × Wd) :=
  if (w.1 6 6) = 0 then (if (1 : Int32) ≤ (w.1 6 5) then (wput w 6 5 ((w.1 6 5) - (1 : Int32)) (fun w1 => wput w1 6 7 (0 : Int32) (fun w2 => f_X1_takesFigure_b32 x1 w2))) else (if zb (0 : Int32) = true then some ((0 : Int32), w) else none)) else (f_X1_takesFigure_b32 x1 w)
set_option maxRecDepth 100000 in
set_option maxHeartbeats 4000000 in
theorem wk_X1_takesFigure (Z : CSp) (w : Wd) (x1 : Int32)  : Wm (EC Z) MX1_takesFigure oIw w 0 [(0, Value.ref (aC Z 6)), (1, Value.int x1)] [] (f_X1_takesFigure x1 w) := by
  unfold f_X1_takesFigure
  refine r_aload_n dX1_takesFigure_0 0 rfl ?_
  refine r_get FX1 6 (Nat.le_of_ble_eq_true rfl) kf_X1_31 6 (qC_6 Z w) rfl dX1_takesFigure_1 ?_
  refine r_if_ne (tgt := 32) dX1_takesFigure_4 (by decide) (fun _ => ?_) (fun _ => ?_)
  · exact wk_X1_takesFigure_b32 Z w x1
  · refine r_aload_n dX1_takesFigure_7 0 rfl ?_
    refine r_get FX1 5 (Nat.le_of_ble_eq_true rfl) kf_X1_28 6 (qC_6 Z w) rfl dX1_takesFigure_8 ?_
    refine r_iconst (v := 1) dX1_takesFigure_11 (by decide) ?_
    refine r_icmp_ge (tgt := 17) dX1_takesFigure_12 (by decide) (fun _ => ?_) (fun _ => ?_)
    · refine r_aload_n dX1_takesFigure_17 0 rfl ?_
      refine r_dup dX1_takesFigure_18 rfl ?_
      refine r_get FX1 5 (Nat.le_of_ble_eq_true rfl) kf_X1_28 6 (qC_6 Z w) rfl dX1_takesFigure_19 ?_
      refine r_iconst (v := 1) dX1_takesFigure_22 (by decide) ?_
      refine r_isub dX1_takesFigure_23 ?_
      refine r_puti FX1 tyX1_ok nmX1 kf_X1_28 (qC_6 Z w) ⟨(Nat.le_of_ble_eq_true rfl), (Nat.le_of_ble_eq_true rfl), rfl⟩ (by decide) (uC_6_5 Z w ((w.1 6 5) - (1 : Int32))) dX1_takesFigure_24 (fun w1 => ?_)
      refine r_aload_n dX1_takesFigure_27 0 rfl ?_
      refine r_iconst (v := 0) dX1_takesFigure_28 (by decide) ?_
      refine r_puti FX1 tyX1_ok nmX1 kf_X1_56 (qC_6 Z w1) ⟨(Nat.le_of_ble_eq_true rfl), (Nat.le_of_ble_eq_true rfl), rfl⟩ (by decide) (uC_6_7 Z w1 (0 : Int32)) dX1_takesFigure_29 (fun w2 => ?_)
      exact wk_X1_takesFigure_b32 Z w2 x1
    · refine r_iconst (v := 0) dX1_takesFigure_15 (by decide) ?_
      exact r_zretw rfl dX1_takesFigure_16
theorem m_X1_takesFigure (Z : CSp) (w : Wd) (x1 : Int32) : MetM (EC Z) yX1_takesFigure cX1_takesFigure 2 (some .boolean) { frames := 0, cells := 0, slots := 0, locals := 0 } oIw [Value.ref (aC Z 6), Value.int x1] w (f_X1_takesFigure x1 w) := MetM_of (plainFor_of_name (by decide)) (Nat.le_of_ble_eq_true rfl) (wk_X1_takesFigure Z w x1)
abbrev MX1_takes : Mt := (cX1_takes, RX1, 2, some .boolean, { frames := 3, cells := 0, slots := 0, locals := 63 })
def f_X1_takes_b81 (w : Wd) : Option (Int32 × Wd) :=
  if zb (0 : Int32) = true then some ((0 : Int32), w) else none
set_option maxRecDepth 100000 in
set_option maxHeartbeats 4000000 in
theorem wk_X1_takes_b81 (Z : CSp) (w : Wd)   : Wm (EC Z) MX1_takes oIw w 81 [] [] (f_X1_takes_b81 w) := by
  unfold f_X1_takes_b81
  refine r_iconst (v := 0) dX1_takes_81 (by decide) ?_
  exact r_zretw rfl dX1_takes_82
def f_X1_takes_b67 (s0 : Int32) (w : Wd) : Option (Int32 × Wd) :=
  if zb s0 = true then some (s0, w) else none
set_option maxRecDepth 100000 in
set_option maxHeartbeats 4000000 in
theorem wk_X1_takes_b67 (Z : CSp) (w : Wd) (s0 : Int32)  : Wm (EC Z) MX1_takes oIw w 67 [] [Value.int s0] (f_X1_takes_b67 s0 w) := by
  unfold f_X1_takes_b67
  exact r_zretw rfl dX1_takes_67
def f_X1_takes_b21 (x1 : Int32) (w : Wd) : Option (Int32 × Wd) :=
  (f_X1_endNumber w).bind (fun w7 => if x1 = (32 : Int32) then (if zb (1 : Int32) = true then some ((1 : Int32), w7) else none) else (if (w7.1 6 5) = (-1 : Int32) then ((f_X1_numbersOf x1).bind (fun v10 => wput w7 6 5 v10 (fun w11 => (f_X1_keep x1 w11).bind (fun w12 => if (w12.1 6 5) = (-1 : Int32) then (f_X1_takes_b67 (0 : Int32) w12) else (f_X1_takes_b67 (1 : Int32) w12))))) else (if x1 = (59 : Int32) then (if (w7.1 6 5) ≤ 0 then (wput w7 6 5 (-1 : Int32) (fun w8 => wput w8 6 4 ((w8.1 6 4) + (1 : Int32)) (fun w9 => if zb (1 : Int32) = true then some ((1 : Int32), w9) else none))) else (f_X1_takes_b81 w7)) else (f_X1_takes_b81 w7))))
set_option maxRecDepth 100000 in
set_option maxHeartbeats 4000000 in
theorem wk_X1_takes_b21 (Z : CSp) (w : Wd) (x1 : Int32)  : Wm (EC Z) MX1_takes oIw w 21 [(0, Value.ref (aC Z 6)), (1, Value.int x1)] [] (f_X1_takes_b21 x1 w) := by
  unfold f_X1_takes_b21
  refine r_aload_n dX1_takes_21 0 rfl ?_
  refine r_callV_Vw [] cfX1_endNumber (m_X1_endNumber Z w) km_X1_45 ⟨rfl, rfl, (Nat.le_of_ble_eq_true rfl), (Nat.le_of_ble_eq_true rfl)⟩ rfl rfl 6 (qC_6 Z w) rfl rfl (Nat.le_of_ble_eq_true rfl) dX1_takes_22 (fun w7 => ?_)
  refine r_iload_n dX1_takes_25 1 rfl ?_
  refine r_bipush (v := 32) dX1_takes_26 (by decide) ?_
  refine r_icmp_ne (tgt := 33) dX1_takes_28 (by decide) (fun _ => ?_) (fun _ => ?_)
  · refine r_aload_n dX1_takes_33 0 rfl ?_
    refine r_get FX1 5 (Nat.le_of_ble_eq_true rfl) kf_X1_28 6 (qC_6 Z w7) rfl dX1_takes_34 ?_
    refine r_iconst (v := -1) dX1_takes_37 (by decide) ?_
    refine r_icmp_ne (tgt := 68) dX1_takes_38 (by decide) (fun _ => ?_) (fun _ => ?_)
    · refine r_iload_n dX1_takes_68 1 rfl ?_
      refine r_bipush (v := 59) dX1_takes_69 (by decide) ?_
      refine r_icmp_ne (tgt := 81) dX1_takes_71 (by decide) (fun _ => ?_) (fun _ => ?_)
      · refine r_lv [] rfl ?_
        exact wk_X1_takes_b81 Z w7
      · refine r_aload_n dX1_takes_74 0 rfl ?_
        refine r_get FX1 5 (Nat.le_of_ble_eq_true rfl) kf_X1_28 6 (qC_6 Z w7) rfl dX1_takes_75 ?_
        refine r_if_le (tgt := 83) dX1_takes_78 (by decide) (fun _ => ?_) (fun _ => ?_)
        · refine r_aload_n dX1_takes_83 0 rfl ?_
          refine r_iconst (v := -1) dX1_takes_84 (by decide) ?_
          refine r_puti FX1 tyX1_ok nmX1 kf_X1_28 (qC_6 Z w7) ⟨(Nat.le_of_ble_eq_true rfl), (Nat.le_of_ble_eq_true rfl), rfl⟩ (by decide) (uC_6_5 Z w7 (-1 : Int32)) dX1_takes_85 (fun w8 => ?_)
          refine r_aload_n dX1_takes_88 0 rfl ?_
          refine r_dup dX1_takes_89 rfl ?_
          refine r_get FX1 4 (Nat.le_of_ble_eq_true rfl) kf_X1_22 6 (qC_6 Z w8) rfl dX1_takes_90 ?_
          refine r_iconst (v := 1) dX1_takes_93 (by decide) ?_
          refine r_iadd dX1_takes_94 ?_
          refine r_puti FX1 tyX1_ok nmX1 kf_X1_22 (qC_6 Z w8) ⟨(Nat.le_of_ble_eq_true rfl), (Nat.le_of_ble_eq_true rfl), rfl⟩ (by decide) (uC_6_4 Z w8 ((w8.1 6 4) + (1 : Int32))) dX1_takes_95 (fun w9 => ?_)
          refine r_iconst (v := 1) dX1_takes_98 (by decide) ?_
          exact r_zretw rfl dX1_takes_99
        · refine r_lv [] rfl ?_
          exact wk_X1_takes_b81 Z w7
    · refine r_aload_n dX1_takes_41 0 rfl ?_
      refine r_iload_n dX1_takes_42 1 rfl ?_
      refine r_callS_I [Value.int x1] cfX1_numbersOf (m_X1_numbersOf Z w7 x1) km_X1_48 ⟨rfl, rfl, (Nat.le_of_ble_eq_true rfl), (Nat.le_of_ble_eq_true rfl)⟩ rfl rfl (Nat.le_of_ble_eq_true rfl) dX1_takes_43 (fun v10 => ?_)
      refine r_puti FX1 tyX1_ok nmX1 kf_X1_28 (qC_6 Z w7) ⟨(Nat.le_of_ble_eq_true rfl), (Nat.le_of_ble_eq_true rfl), rfl⟩ (by decide) (uC_6_5 Z w7 v10) dX1_takes_46 (fun w11 => ?_)
      refine r_aload_n dX1_takes_49 0 rfl ?_
      refine r_iload_n dX1_takes_50 1 rfl ?_
      refine r_callV_Vw [Value.int x1] cfX1_keep (m_X1_keep Z w11 x1) km_X1_52 ⟨rfl, rfl, (Nat.le_of_ble_eq_true rfl), (Nat.le_of_ble_eq_true rfl)⟩ rfl rfl 6 (qC_6 Z w11) rfl rfl (Nat.le_of_ble_eq_true rfl) dX1_takes_51 (fun w12 => ?_)
      refine r_aload_n dX1_takes_54 0 rfl ?_
      refine r_get FX1 5 (Nat.le_of_ble_eq_true rfl) kf_X1_28 6 (qC_6 Z w12) rfl dX1_takes_55 ?_
      refine r_iconst (v := -1) dX1_takes_58 (by decide) ?_
      refine r_icmp_eq (tgt := 66) dX1_takes_59 (by decide) (fun _ => ?_) (fun _ => ?_)
      · refine r_iconst (v := 0) dX1_takes_66 (by decide) ?_
        refine r_lv [] rfl ?_
        exact wk_X1_takes_b67 Z w12 (0 : Int32)
      · refine r_iconst (v := 1) dX1_takes_62 (by decide) ?_
        refine r_goto (tgt := 67) dX1_takes_63 (by decide) ?_
        refine r_lv [] rfl ?_
        exact wk_X1_takes_b67 Z w12 (1 : Int32)
  · refine r_iconst (v := 1) dX1_takes_31 (by decide) ?_
    exact r_zretw rfl dX1_takes_32
def f_X1_takes (x1 : Int32) (w : Wd) : Option (Int32 × Wd) :=
  if x1 < (48 : Int32) then (f_X1_takes_b21 x1 w) else (if (57 : Int32) < x1 then (f_X1_takes_b21 x1 w) else ((f_X1_takesFigure (x1 - (48 : Int32)) w).bind (fun z1 => if zb z1.1 = true then some (z1.1, z1.2) else none)))
set_option maxRecDepth 100000 in
set_option maxHeartbeats 4000000 in
theorem wk_X1_takes (Z : CSp) (w : Wd) (x1 : Int32)  : Wm (EC Z) MX1_takes oIw w 0 [(0, Value.ref (aC Z 6)), (1, Value.int x1)] [] (f_X1_takes x1 w) := by
  unfold f_X1_takes
  refine r_iload_n dX1_takes_0 1 rfl ?_
  refine r_bipush (v := 48) dX1_takes_1 (by decide) ?_
  refine r_icmp_lt (tgt := 21) dX1_takes_3 (by decide) (fun _ => ?_) (fun _ => ?_)
  · exact wk_X1_takes_b21 Z w x1
  · refine r_iload_n dX1_takes_6 1 rfl ?_
    refine r_bipush (v := 57) dX1_takes_7 (by decide) ?_
    refine r_icmp_gt (tgt := 21) dX1_takes_9 (by decide) (fun _ => ?_) (fun _ => ?_)
    · exact wk_X1_takes_b21 Z w x1
    · refine r_aload_n dX1_takes_12 0 rfl ?_
      refine r_iload_n dX1_takes_13 1 rfl ?_
      refine r_bipush (v := 48) dX1_takes_14 (by decide) ?_
      refine r_isub dX1_takes_16 ?_
      refine r_callV_Iw [Value.int (x1 - (48 : Int32))] cfX1_takesFigure (m_X1_takesFigure Z w (x1 - (48 : Int32))) km_X1_42 ⟨rfl, rfl, (Nat.le_of_ble_eq_true rfl), (Nat.le_of_ble_eq_true rfl)⟩ rfl rfl 6 (qC_6 Z w) rfl rfl (Nat.le_of_ble_eq_true rfl) dX1_takes_17 (fun z1 => ?_)
      exact r_zretw rfl dX1_takes_20
theorem m_X1_takes (Z : CSp) (w : Wd) (x1 : Int32) : MetM (EC Z) yX1_takes cX1_takes 2 (some .boolean) { frames := 3, cells := 0, slots := 0, locals := 63 } oIw [Value.ref (aC Z 6), Value.int x1] w (f_X1_takes x1 w) := MetM_of (plainFor_of_name (by decide)) (Nat.le_of_ble_eq_true rfl) (wk_X1_takes Z w x1)
abbrev MX1_readAll : Mt := (cX1_readAll, RX1, 2, some .int, { frames := 4, cells := 0, slots := 0, locals := 84 })
def f_X1_readAll_b81 (s0 : Int32) (w : Wd) : Option (Int32 × Wd) :=
  some (s0, w)
set_option maxRecDepth 100000 in
set_option maxHeartbeats 4000000 in
theorem wk_X1_readAll_b81 (Z : CSp) (w : Wd) (s0 : Int32)  : Wm (EC Z) MX1_readAll oIw w 81 [] [Value.int s0] (f_X1_readAll_b81 s0 w) := by
  unfold f_X1_readAll_b81
  exact r_iretw rfl dX1_readAll_81
def f_X1_readAll_b77 (w : Wd) : Option (Int32 × Wd) :=
  f_X1_readAll_b81 (w.1 6 1) w
set_option maxRecDepth 100000 in
set_option maxHeartbeats 4000000 in
theorem wk_X1_readAll_b77 (Z : CSp) (w : Wd)   : Wm (EC Z) MX1_readAll oIw w 77 [(0, Value.ref (aC Z 6))] [] (f_X1_readAll_b77 w) := by
  unfold f_X1_readAll_b77
  refine r_aload_n dX1_readAll_77 0 rfl ?_
  refine r_get FX1 1 (Nat.le_of_ble_eq_true rfl) kf_X1_15 6 (qC_6 Z w) rfl dX1_readAll_78 ?_
  refine r_lv [] rfl ?_
  exact wk_X1_readAll_b81 Z w (w.1 6 1)
def f_X1_readAll_b58 (w : Wd) : Option (Int32 × Wd) :=
  if (w.1 6 5) = (-1 : Int32) then (if (w.1 6 4) ≤ 0 then (f_X1_readAll_b77 w) else (f_X1_readAll_b81 (-1 : Int32) w)) else (f_X1_readAll_b77 w)
set_option maxRecDepth 100000 in
set_option maxHeartbeats 4000000 in
theorem wk_X1_readAll_b58 (Z : CSp) (w : Wd)   : Wm (EC Z) MX1_readAll oIw w 58 [(0, Value.ref (aC Z 6))] [] (f_X1_readAll_b58 w) := by
  unfold f_X1_readAll_b58
  refine r_aload_n dX1_readAll_58 0 rfl ?_
  refine r_get FX1 5 (Nat.le_of_ble_eq_true rfl) kf_X1_28 6 (qC_6 Z w) rfl dX1_readAll_59 ?_
  refine r_iconst (v := -1) dX1_readAll_62 (by decide) ?_
  refine r_icmp_ne (tgt := 77) dX1_readAll_63 (by decide) (fun _ => ?_) (fun _ => ?_)
  · exact wk_X1_readAll_b77 Z w
  · refine r_aload_n dX1_readAll_66 0 rfl ?_
    refine r_get FX1 4 (Nat.le_of_ble_eq_true rfl) kf_X1_22 6 (qC_6 Z w) rfl dX1_readAll_67 ?_
    refine r_if_le (tgt := 77) dX1_readAll_70 (by decide) (fun _ => ?_) (fun _ => ?_)
    · exact wk_X1_readAll_b77 Z w
    · refine r_iconst (v := -1) dX1_readAll_73 (by decide) ?_
      refine r_goto (tgt := 81) dX1_readAll_74 (by decide) ?_
      refine r_lv [] rfl ?_
      exact wk_X1_readAll_b81 Z w (-1 : Int32)
def f_X1_readAll_b22  : Nat → Int32 → Wd → Option (Int32 × Wd)
  | 0, _, _ => none
  | n + 1, x1, w =>
  if (w.1 6 1) ≤ x1 then (f_X1_readAll_b58 w) else (if (150 : Int32) ≤ x1 then (f_X1_readAll_b58 w) else (if inb x1 150 = true then ((f_X1_takes (w.1 7 (x1).toNatClampNeg) w).bind (fun z2 => if z2.1 = 0 then (some (x1, z2.2)) else (f_X1_readAll_b22 n (x1 + 1) z2.2))) else none))
set_option maxRecDepth 100000 in
set_option maxHeartbeats 4000000 in
theorem wk_X1_readAll_b22 (Z : CSp)   : ∀ (n : Nat) (x1 : Int32) (w : Wd), Wm (EC Z) MX1_readAll oIw w 22 [(0, Value.ref (aC Z 6)), (1, Value.int x1)] [] (f_X1_readAll_b22  n x1 w) := by
  intro n
  induction n with
  | zero =>
    intro x1 w
    exact r_none
  | succ n ih =>
    intro x1 w
    rw [f_X1_readAll_b22]
    refine r_iload_n dX1_readAll_22 1 rfl ?_
    refine r_aload_n dX1_readAll_23 0 rfl ?_
    refine r_get FX1 1 (Nat.le_of_ble_eq_true rfl) kf_X1_15 6 (qC_6 Z w) rfl dX1_readAll_24 ?_
    refine r_icmp_ge (tgt := 58) dX1_readAll_27 (by decide) (fun _ => ?_) (fun _ => ?_)
    · refine r_lv [0] rfl ?_
      exact wk_X1_readAll_b58 Z w
    · refine r_iload_n dX1_readAll_30 1 rfl ?_
      refine r_sipush (v := 150) dX1_readAll_31 (by decide) ?_
      refine r_icmp_ge (tgt := 58) dX1_readAll_34 (by decide) (fun _ => ?_) (fun _ => ?_)
      · refine r_lv [0] rfl ?_
        exact wk_X1_readAll_b58 Z w
      · refine r_aload_n dX1_readAll_37 0 rfl ?_
        refine r_aload_n dX1_readAll_38 0 rfl ?_
        refine r_get FX1 0 (Nat.le_of_ble_eq_true rfl) kf_X1_9 6 (qC_6 Z w) rfl dX1_readAll_39 ?_
        refine r_iload_n dX1_readAll_42 1 rfl ?_
        refine r_iald 7 (qC_7 Z w) rfl dX1_readAll_43 ?_
        refine r_callV_Iw [Value.int (w.1 7 (x1).toNatClampNeg)] cfX1_takes (m_X1_takes Z w (w.1 7 (x1).toNatClampNeg)) km_X1_34 ⟨rfl, rfl, (Nat.le_of_ble_eq_true rfl), (Nat.le_of_ble_eq_true rfl)⟩ rfl rfl 6 (qC_6 Z w) rfl rfl (Nat.le_of_ble_eq_true rfl) dX1_readAll_44 (fun z2 => ?_)
        refine r_if_ne (tgt := 52) dX1_readAll_47 (by decide) (fun _ => ?_) (fun _ => ?_)
        · refine r_iinc (lv' := [(0, Value.ref (aC Z 6)), (1, Value.int (x1 + 1))]) dX1_readAll_52 1 rfl (by rfl) (Nat.le_of_ble_eq_true rfl) [1, 0] rfl ?_
          refine r_goto (tgt := 22) dX1_readAll_55 (by decide) ?_
          exact ih (x1 + 1) z2.2
        · refine r_iload_n dX1_readAll_50 1 rfl ?_
          exact r_iretw rfl dX1_readAll_51
def f_X1_readAll (w : Wd) : Option (Int32 × Wd) :=
  wput w 6 3 (0 : Int32) (fun w1 => wput w1 6 4 (0 : Int32) (fun w2 => wput w2 6 5 (-1 : Int32) (fun w3 => wput w3 6 6 (0 : Int32) (fun w4 => f_X1_readAll_b22 FUEL (0 : Int32) w4))))
set_option maxRecDepth 100000 in
set_option maxHeartbeats 4000000 in
theorem wk_X1_readAll (Z : CSp) (w : Wd)   : Wm (EC Z) MX1_readAll oIw w 0 [(0, Value.ref (aC Z 6))] [] (f_X1_readAll w) := by
  unfold f_X1_readAll
  refine r_aload_n dX1_readAll_0 0 rfl ?_
  refine r_iconst (v := 0) dX1_readAll_1 (by decide) ?_
  refine r_puti FX1 tyX1_ok nmX1 kf_X1_25 (qC_6 Z w) ⟨(Nat.le_of_ble_eq_true rfl), (Nat.le_of_ble_eq_true rfl), rfl⟩ (by decide) (uC_6_3 Z w (0 : Int32)) dX1_readAll_2 (fun w1 => ?_)
  refine r_aload_n dX1_readAll_5 0 rfl ?_
  refine r_iconst (v := 0) dX1_readAll_6 (by decide) ?_
  refine r_puti FX1 tyX1_ok nmX1 kf_X1_22 (qC_6 Z w1) ⟨(Nat.le_of_ble_eq_true rfl), (Nat.le_of_ble_eq_true rfl), rfl⟩ (by decide) (uC_6_4 Z w1 (0 : Int32)) dX1_readAll_7 (fun w2 => ?_)
  refine r_aload_n dX1_readAll_10 0 rfl ?_
  refine r_iconst (v := -1) dX1_readAll_11 (by decide) ?_
  refine r_puti FX1 tyX1_ok nmX1 kf_X1_28 (qC_6 Z w2) ⟨(Nat.le_of_ble_eq_true rfl), (Nat.le_of_ble_eq_true rfl), rfl⟩ (by decide) (uC_6_5 Z w2 (-1 : Int32)) dX1_readAll_12 (fun w3 => ?_)
  refine r_aload_n dX1_readAll_15 0 rfl ?_
  refine r_iconst (v := 0) dX1_readAll_16 (by decide) ?_
  refine r_puti FX1 tyX1_ok nmX1 kf_X1_31 (qC_6 Z w3) ⟨(Nat.le_of_ble_eq_true rfl), (Nat.le_of_ble_eq_true rfl), rfl⟩ (by decide) (uC_6_6 Z w3 (0 : Int32)) dX1_readAll_17 (fun w4 => ?_)
  refine r_iconst (v := 0) dX1_readAll_20 (by decide) ?_
  refine r_istore_n (lv' := [(0, Value.ref (aC Z 6)), (1, Value.int (0 : Int32))]) dX1_readAll_21 (Nat.le_of_ble_eq_true rfl) [1, 0] rfl ?_
  exact wk_X1_readAll_b22 Z FUEL (0 : Int32) w4
theorem m_X1_readAll (Z : CSp) (w : Wd)  : MetM (EC Z) yX1_readAll cX1_readAll 2 (some .int) { frames := 4, cells := 0, slots := 0, locals := 84 } oIw [Value.ref (aC Z 6)] w (f_X1_readAll w) := MetM_of (plainFor_of_name (by decide)) (Nat.le_of_ble_eq_true rfl) (wk_X1_readAll Z w )
