abbrev MX4_copyFrom_14_10 : Mt := (cX4_copyFrom, RX4, 2, none, { frames := 1, cells := 0, slots := 0, locals := 40 })
set_option maxRecDepth 100000 in
set_option maxHeartbeats 4000000 in
theorem wk_X4_copyFrom_14_10 (Z : CSp) (w : Wd)   : Wm (EC Z) MX4_copyFrom_14_10 oVw w 0 [(0, Value.ref (aC Z 14)), (1, Value.ref (aC Z 10))] [] (f_X4_copyFrom 14 10 w) := by
  unfold f_X4_copyFrom
  refine r_aload_n dX4_copyFrom_0 0 rfl ?_
  refine r_aload_n dX4_copyFrom_1 1 rfl ?_
  refine r_get FX4 0 (Nat.le_of_ble_eq_true rfl) kf_X4_9 10 (qC_10 Z w) rfl dX4_copyFrom_2 ?_
  refine r_puti FX4 tyX4_ok nmX4 kf_X4_9 (qC_14 Z w) ⟨(Nat.le_of_ble_eq_true rfl), (Nat.le_of_ble_eq_true rfl), rfl⟩ (by decide) (uC_14_0 Z w (w.1 10 0)) dX4_copyFrom_5 (fun w1 => ?_)
  refine r_aload_n dX4_copyFrom_8 0 rfl ?_
  refine r_aload_n dX4_copyFrom_9 1 rfl ?_
  refine r_get FX4 1 (Nat.le_of_ble_eq_true rfl) kf_X4_15 10 (qC_10 Z w1) rfl dX4_copyFrom_10 ?_
  refine r_puti FX4 tyX4_ok nmX4 kf_X4_15 (qC_14 Z w1) ⟨(Nat.le_of_ble_eq_true rfl), (Nat.le_of_ble_eq_true rfl), rfl⟩ (by decide) (uC_14_1 Z w1 (w1.1 10 1)) dX4_copyFrom_13 (fun w2 => ?_)
  refine r_aload_n dX4_copyFrom_16 1 rfl ?_
  refine r_get FX4 2 (Nat.le_of_ble_eq_true rfl) kf_X4_18 10 (qC_10 Z w2) rfl dX4_copyFrom_17 ?_
  refine r_iconst (v := 0) dX4_copyFrom_20 (by decide) ?_
  refine r_aload_n dX4_copyFrom_21 0 rfl ?_
  refine r_get FX4 2 (Nat.le_of_ble_eq_true rfl) kf_X4_18 14 (qC_14 Z w2) rfl dX4_copyFrom_22 ?_
  refine r_iconst (v := 0) dX4_copyFrom_25 (by decide) ?_
  refine r_iconst (v := 3) dX4_copyFrom_26 (by decide) ?_
  refine r_copy km_X4_31 (qC_11 Z w2) (qC_15 Z w2) rfl (by decide) (by decide) rfl (vC_15 Z w2) ⟨(Nat.le_of_ble_eq_true rfl), (Nat.le_of_ble_eq_true rfl)⟩ dX4_copyFrom_27 (fun w3 => ?_)
  refine r_aload_n dX4_copyFrom_30 1 rfl ?_
  refine r_get FX4 3 (Nat.le_of_ble_eq_true rfl) kf_X4_22 10 (qC_10 Z w3) rfl dX4_copyFrom_31 ?_
  refine r_iconst (v := 0) dX4_copyFrom_34 (by decide) ?_
  refine r_aload_n dX4_copyFrom_35 0 rfl ?_
  refine r_get FX4 3 (Nat.le_of_ble_eq_true rfl) kf_X4_22 14 (qC_14 Z w3) rfl dX4_copyFrom_36 ?_
  refine r_iconst (v := 0) dX4_copyFrom_39 (by decide) ?_
  refine r_bipush (v := 6) dX4_copyFrom_40 (by decide) ?_
  refine r_copy km_X4_31 (qC_12 Z w3) (qC_16 Z w3) rfl (by decide) (by decide) rfl (vC_16 Z w3) ⟨(Nat.le_of_ble_eq_true rfl), (Nat.le_of_ble_eq_true rfl)⟩ dX4_copyFrom_42 (fun w4 => ?_)
  refine r_aload_n dX4_copyFrom_45 1 rfl ?_
  refine r_get FX4 4 (Nat.le_of_ble_eq_true rfl) kf_X4_25 10 (qC_10 Z w4) rfl dX4_copyFrom_46 ?_
  refine r_iconst (v := 0) dX4_copyFrom_49 (by decide) ?_
  refine r_aload_n dX4_copyFrom_50 0 rfl ?_
  refine r_get FX4 4 (Nat.le_of_ble_eq_true rfl) kf_X4_25 14 (qC_14 Z w4) rfl dX4_copyFrom_51 ?_
  refine r_iconst (v := 0) dX4_copyFrom_54 (by decide) ?_
  refine r_sipush (v := 384) dX4_copyFrom_55 (by decide) ?_
  refine r_copy km_X4_31 (qC_13 Z w4) (qC_17 Z w4) rfl (by decide) (by decide) rfl (vC_17 Z w4) ⟨(Nat.le_of_ble_eq_true rfl), (Nat.le_of_ble_eq_true rfl)⟩ dX4_copyFrom_58 (fun w5 => ?_)
  exact r_vret rfl dX4_copyFrom_61
theorem m_X4_copyFrom_14_10 (Z : CSp) (w : Wd)  : MetM (EC Z) yX4_copyFrom cX4_copyFrom 2 none { frames := 1, cells := 0, slots := 0, locals := 40 } oVw [Value.ref (aC Z 14), Value.ref (aC Z 10)] w (f_X4_copyFrom 14 10 w) := MetM_of (plainFor_of_name (by decide)) (Nat.le_of_ble_eq_true rfl) (wk_X4_copyFrom_14_10 Z w )
abbrev MX4_copyFrom_10_14 : Mt := (cX4_copyFrom, RX4, 2, none, { frames := 1, cells := 0, slots := 0, locals := 40 })
set_option maxRecDepth 100000 in
set_option maxHeartbeats 4000000 in
theorem wk_X4_copyFrom_10_14 (Z : CSp) (w : Wd)   : Wm (EC Z) MX4_copyFrom_10_14 oVw w 0 [(0, Value.ref (aC Z 10)), (1, Value.ref (aC Z 14))] [] (f_X4_copyFrom 10 14 w) := by
  unfold f_X4_copyFrom
  refine r_aload_n dX4_copyFrom_0 0 rfl ?_
  refine r_aload_n dX4_copyFrom_1 1 rfl ?_
  refine r_get FX4 0 (Nat.le_of_ble_eq_true rfl) kf_X4_9 14 (qC_14 Z w) rfl dX4_copyFrom_2 ?_
  refine r_puti FX4 tyX4_ok nmX4 kf_X4_9 (qC_10 Z w) ⟨(Nat.le_of_ble_eq_true rfl), (Nat.le_of_ble_eq_true rfl), rfl⟩ (by decide) (uC_10_0 Z w (w.1 14 0)) dX4_copyFrom_5 (fun w1 => ?_)
  refine r_aload_n dX4_copyFrom_8 0 rfl ?_
  refine r_aload_n dX4_copyFrom_9 1 rfl ?_
  refine r_get FX4 1 (Nat.le_of_ble_eq_true rfl) kf_X4_15 14 (qC_14 Z w1) rfl dX4_copyFrom_10 ?_
  refine r_puti FX4 tyX4_ok nmX4 kf_X4_15 (qC_10 Z w1) ⟨(Nat.le_of_ble_eq_true rfl), (Nat.le_of_ble_eq_true rfl), rfl⟩ (by decide) (uC_10_1 Z w1 (w1.1 14 1)) dX4_copyFrom_13 (fun w2 => ?_)
  refine r_aload_n dX4_copyFrom_16 1 rfl ?_
  refine r_get FX4 2 (Nat.le_of_ble_eq_true rfl) kf_X4_18 14 (qC_14 Z w2) rfl dX4_copyFrom_17 ?_
  refine r_iconst (v := 0) dX4_copyFrom_20 (by decide) ?_
  refine r_aload_n dX4_copyFrom_21 0 rfl ?_
  refine r_get FX4 2 (Nat.le_of_ble_eq_true rfl) kf_X4_18 10 (qC_10 Z w2) rfl dX4_copyFrom_22 ?_
  refine r_iconst (v := 0) dX4_copyFrom_25 (by decide) ?_
  refine r_iconst (v := 3) dX4_copyFrom_26 (by decide) ?_
  refine r_copy km_X4_31 (qC_15 Z w2) (qC_11 Z w2) rfl (by decide) (by decide) rfl (vC_11 Z w2) ⟨(Nat.le_of_ble_eq_true rfl), (Nat.le_of_ble_eq_true rfl)⟩ dX4_copyFrom_27 (fun w3 => ?_)
  refine r_aload_n dX4_copyFrom_30 1 rfl ?_
  refine r_get FX4 3 (Nat.le_of_ble_eq_true rfl) kf_X4_22 14 (qC_14 Z w3) rfl dX4_copyFrom_31 ?_
  refine r_iconst (v := 0) dX4_copyFrom_34 (by decide) ?_
  refine r_aload_n dX4_copyFrom_35 0 rfl ?_
  refine r_get FX4 3 (Nat.le_of_ble_eq_true rfl) kf_X4_22 10 (qC_10 Z w3) rfl dX4_copyFrom_36 ?_
  refine r_iconst (v := 0) dX4_copyFrom_39 (by decide) ?_
  refine r_bipush (v := 6) dX4_copyFrom_40 (by decide) ?_
  refine r_copy km_X4_31 (qC_16 Z w3) (qC_12 Z w3) rfl (by decide) (by decide) rfl (vC_12 Z w3) ⟨(Nat.le_of_ble_eq_true rfl), (Nat.le_of_ble_eq_true rfl)⟩ dX4_copyFrom_42 (fun w4 => ?_)
  refine r_aload_n dX4_copyFrom_45 1 rfl ?_
  refine r_get FX4 4 (Nat.le_of_ble_eq_true rfl) kf_X4_25 14 (qC_14 Z w4) rfl dX4_copyFrom_46 ?_
  refine r_iconst (v := 0) dX4_copyFrom_49 (by decide) ?_
  refine r_aload_n dX4_copyFrom_50 0 rfl ?_
  refine r_get FX4 4 (Nat.le_of_ble_eq_true rfl) kf_X4_25 10 (qC_10 Z w4) rfl dX4_copyFrom_51 ?_
  refine r_iconst (v := 0) dX4_copyFrom_54 (by decide) ?_
  refine r_sipush (v := 384) dX4_copyFrom_55 (by decide) ?_
  refine r_copy km_X4_31 (qC_17 Z w4) (qC_13 Z w4) rfl (by decide) (by decide) rfl (vC_13 Z w4) ⟨(Nat.le_of_ble_eq_true rfl), (Nat.le_of_ble_eq_true rfl)⟩ dX4_copyFrom_58 (fun w5 => ?_)
  exact r_vret rfl dX4_copyFrom_61
theorem m_X4_copyFrom_10_14 (Z : CSp) (w : Wd)  : MetM (EC Z) yX4_copyFrom cX4_copyFrom 2 none { frames := 1, cells := 0, slots := 0, locals := 40 } oVw [Value.ref (aC Z 10), Value.ref (aC Z 14)] w (f_X4_copyFrom 10 14 w) := MetM_of (plainFor_of_name (by decide)) (Nat.le_of_ble_eq_true rfl) (wk_X4_copyFrom_10_14 Z w )
abbrev MX4_copyFrom_18_14 : Mt := (cX4_copyFrom, RX4, 2, none, { frames := 1, cells := 0, slots := 0, locals := 40 })
set_option maxRecDepth 100000 in
set_option maxHeartbeats 4000000 in
theorem wk_X4_copyFrom_18_14 (Z : CSp) (w : Wd)   : Wm (EC Z) MX4_copyFrom_18_14 oVw w 0 [(0, Value.ref (aC Z 18)), (1, Value.ref (aC Z 14))] [] (f_X4_copyFrom 18 14 w) := by
  unfold f_X4_copyFrom
  refine r_aload_n dX4_copyFrom_0 0 rfl ?_
  refine r_aload_n dX4_copyFrom_1 1 rfl ?_
  refine r_get FX4 0 (Nat.le_of_ble_eq_true rfl) kf_X4_9 14 (qC_14 Z w) rfl dX4_copyFrom_2 ?_
  refine r_puti FX4 tyX4_ok nmX4 kf_X4_9 (qC_18 Z w) ⟨(Nat.le_of_ble_eq_true rfl), (Nat.le_of_ble_eq_true rfl), rfl⟩ (by decide) (uC_18_0 Z w (w.1 14 0)) dX4_copyFrom_5 (fun w1 => ?_)
  refine r_aload_n dX4_copyFrom_8 0 rfl ?_
  refine r_aload_n dX4_copyFrom_9 1 rfl ?_
  refine r_get FX4 1 (Nat.le_of_ble_eq_true rfl) kf_X4_15 14 (qC_14 Z w1) rfl dX4_copyFrom_10 ?_
  refine r_puti FX4 tyX4_ok nmX4 kf_X4_15 (qC_18 Z w1) ⟨(Nat.le_of_ble_eq_true rfl), (Nat.le_of_ble_eq_true rfl), rfl⟩ (by decide) (uC_18_1 Z w1 (w1.1 14 1)) dX4_copyFrom_13 (fun w2 => ?_)
  refine r_aload_n dX4_copyFrom_16 1 rfl ?_
  refine r_get FX4 2 (Nat.le_of_ble_eq_true rfl) kf_X4_18 14 (qC_14 Z w2) rfl dX4_copyFrom_17 ?_
  refine r_iconst (v := 0) dX4_copyFrom_20 (by decide) ?_
  refine r_aload_n dX4_copyFrom_21 0 rfl ?_
  refine r_get FX4 2 (Nat.le_of_ble_eq_true rfl) kf_X4_18 18 (qC_18 Z w2) rfl dX4_copyFrom_22 ?_
  refine r_iconst (v := 0) dX4_copyFrom_25 (by decide) ?_
  refine r_iconst (v := 3) dX4_copyFrom_26 (by decide) ?_
  refine r_copy km_X4_31 (qC_15 Z w2) (qC_19 Z w2) rfl (by decide) (by decide) rfl (vC_19 Z w2) ⟨(Nat.le_of_ble_eq_true rfl), (Nat.le_of_ble_eq_true rfl)⟩ dX4_copyFrom_27 (fun w3 => ?_)
  refine r_aload_n dX4_copyFrom_30 1 rfl ?_
  refine r_get FX4 3 (Nat.le_of_ble_eq_true rfl) kf_X4_22 14 (qC_14 Z w3) rfl dX4_copyFrom_31 ?_
  refine r_iconst (v := 0) dX4_copyFrom_34 (by decide) ?_
  refine r_aload_n dX4_copyFrom_35 0 rfl ?_
  refine r_get FX4 3 (Nat.le_of_ble_eq_true rfl) kf_X4_22 18 (qC_18 Z w3) rfl dX4_copyFrom_36 ?_
  refine r_iconst (v := 0) dX4_copyFrom_39 (by decide) ?_
  refine r_bipush (v := 6) dX4_copyFrom_40 (by decide) ?_
  refine r_copy km_X4_31 (qC_16 Z w3) (qC_20 Z w3) rfl (by decide) (by decide) rfl (vC_20 Z w3) ⟨(Nat.le_of_ble_eq_true rfl), (Nat.le_of_ble_eq_true rfl)⟩ dX4_copyFrom_42 (fun w4 => ?_)
  refine r_aload_n dX4_copyFrom_45 1 rfl ?_
  refine r_get FX4 4 (Nat.le_of_ble_eq_true rfl) kf_X4_25 14 (qC_14 Z w4) rfl dX4_copyFrom_46 ?_
  refine r_iconst (v := 0) dX4_copyFrom_49 (by decide) ?_
  refine r_aload_n dX4_copyFrom_50 0 rfl ?_
  refine r_get FX4 4 (Nat.le_of_ble_eq_true rfl) kf_X4_25 18 (qC_18 Z w4) rfl dX4_copyFrom_51 ?_
  refine r_iconst (v := 0) dX4_copyFrom_54 (by decide) ?_
  refine r_sipush (v := 384) dX4_copyFrom_55 (by decide) ?_
  refine r_copy km_X4_31 (qC_17 Z w4) (qC_21 Z w4) rfl (by decide) (by decide) rfl (vC_21 Z w4) ⟨(Nat.le_of_ble_eq_true rfl), (Nat.le_of_ble_eq_true rfl)⟩ dX4_copyFrom_58 (fun w5 => ?_)
  exact r_vret rfl dX4_copyFrom_61
theorem m_X4_copyFrom_18_14 (Z : CSp) (w : Wd)  : MetM (EC Z) yX4_copyFrom cX4_copyFrom 2 none { frames := 1, cells := 0, slots := 0, locals := 40 } oVw [Value.ref (aC Z 18), Value.ref (aC Z 14)] w (f_X4_copyFrom 18 14 w) := MetM_of (plainFor_of_name (by decide)) (Nat.le_of_ble_eq_true rfl) (wk_X4_copyFrom_18_14 Z w )
abbrev MX4_copyFrom_22_14 : Mt := (cX4_copyFrom, RX4, 2, none, { frames := 1, cells := 0, slots := 0, locals := 40 })
set_option maxRecDepth 100000 in
set_option maxHeartbeats 4000000 in
theorem wk_X4_copyFrom_22_14 (Z : CSp) (w : Wd)   : Wm (EC Z) MX4_copyFrom_22_14 oVw w 0 [(0, Value.ref (aC Z 22)), (1, Value.ref (aC Z 14))] [] (f_X4_copyFrom 22 14 w) := by
  unfold f_X4_copyFrom
  refine r_aload_n dX4_copyFrom_0 0 rfl ?_
  refine r_aload_n dX4_copyFrom_1 1 rfl ?_
  refine r_get FX4 0 (Nat.le_of_ble_eq_true rfl) kf_X4_9 14 (qC_14 Z w) rfl dX4_copyFrom_2 ?_
  refine r_puti FX4 tyX4_ok nmX4 kf_X4_9 (qC_22 Z w) ⟨(Nat.le_of_ble_eq_true rfl), (Nat.le_of_ble_eq_true rfl), rfl⟩ (by decide) (uC_22_0 Z w (w.1 14 0)) dX4_copyFrom_5 (fun w1 => ?_)
  refine r_aload_n dX4_copyFrom_8 0 rfl ?_
  refine r_aload_n dX4_copyFrom_9 1 rfl ?_
  refine r_get FX4 1 (Nat.le_of_ble_eq_true rfl) kf_X4_15 14 (qC_14 Z w1) rfl dX4_copyFrom_10 ?_
  refine r_puti FX4 tyX4_ok nmX4 kf_X4_15 (qC_22 Z w1) ⟨(Nat.le_of_ble_eq_true rfl), (Nat.le_of_ble_eq_true rfl), rfl⟩ (by decide) (uC_22_1 Z w1 (w1.1 14 1)) dX4_copyFrom_13 (fun w2 => ?_)
  refine r_aload_n dX4_copyFrom_16 1 rfl ?_
  refine r_get FX4 2 (Nat.le_of_ble_eq_true rfl) kf_X4_18 14 (qC_14 Z w2) rfl dX4_copyFrom_17 ?_
  refine r_iconst (v := 0) dX4_copyFrom_20 (by decide) ?_
  refine r_aload_n dX4_copyFrom_21 0 rfl ?_
  refine r_get FX4 2 (Nat.le_of_ble_eq_true rfl) kf_X4_18 22 (qC_22 Z w2) rfl dX4_copyFrom_22 ?_
  refine r_iconst (v := 0) dX4_copyFrom_25 (by decide) ?_
  refine r_iconst (v := 3) dX4_copyFrom_26 (by decide) ?_
  refine r_copy km_X4_31 (qC_15 Z w2) (qC_23 Z w2) rfl (by decide) (by decide) rfl (vC_23 Z w2) ⟨(Nat.le_of_ble_eq_true rfl), (Nat.le_of_ble_eq_true rfl)⟩ dX4_copyFrom_27 (fun w3 => ?_)
  refine r_aload_n dX4_copyFrom_30 1 rfl ?_
  refine r_get FX4 3 (Nat.le_of_ble_eq_true rfl) kf_X4_22 14 (qC_14 Z w3) rfl dX4_copyFrom_31 ?_
  refine r_iconst (v := 0) dX4_copyFrom_34 (by decide) ?_
  refine r_aload_n dX4_copyFrom_35 0 rfl ?_
  refine r_get FX4 3 (Nat.le_of_ble_eq_true rfl) kf_X4_22 22 (qC_22 Z w3) rfl dX4_copyFrom_36 ?_
  refine r_iconst (v := 0) dX4_copyFrom_39 (by decide) ?_
  refine r_bipush (v := 6) dX4_copyFrom_40 (by decide) ?_
  refine r_copy km_X4_31 (qC_16 Z w3) (qC_24 Z w3) rfl (by decide) (by decide) rfl (vC_24 Z w3) ⟨(Nat.le_of_ble_eq_true rfl), (Nat.le_of_ble_eq_true rfl)⟩ dX4_copyFrom_42 (fun w4 => ?_)
  refine r_aload_n dX4_copyFrom_45 1 rfl ?_
  refine r_get FX4 4 (Nat.le_of_ble_eq_true rfl) kf_X4_25 14 (qC_14 Z w4) rfl dX4_copyFrom_46 ?_
  refine r_iconst (v := 0) dX4_copyFrom_49 (by decide) ?_
  refine r_aload_n dX4_copyFrom_50 0 rfl ?_
  refine r_get FX4 4 (Nat.le_of_ble_eq_true rfl) kf_X4_25 22 (qC_22 Z w4) rfl dX4_copyFrom_51 ?_
  refine r_iconst (v := 0) dX4_copyFrom_54 (by decide) ?_
  refine r_sipush (v := 384) dX4_copyFrom_55 (by decide) ?_
  refine r_copy km_X4_31 (qC_17 Z w4) (qC_25 Z w4) rfl (by decide) (by decide) rfl (vC_25 Z w4) ⟨(Nat.le_of_ble_eq_true rfl), (Nat.le_of_ble_eq_true rfl)⟩ dX4_copyFrom_58 (fun w5 => ?_)
  exact r_vret rfl dX4_copyFrom_61
theorem m_X4_copyFrom_22_14 (Z : CSp) (w : Wd)  : MetM (EC Z) yX4_copyFrom cX4_copyFrom 2 none { frames := 1, cells := 0, slots := 0, locals := 40 } oVw [Value.ref (aC Z 22), Value.ref (aC Z 14)] w (f_X4_copyFrom 22 14 w) := MetM_of (plainFor_of_name (by decide)) (Nat.le_of_ble_eq_true rfl) (wk_X4_copyFrom_22_14 Z w )
abbrev MX4_copyFrom_26_14 : Mt := (cX4_copyFrom, RX4, 2, none, { frames := 1, cells := 0, slots := 0, locals := 40 })
set_option maxRecDepth 100000 in
set_option maxHeartbeats 4000000 in
theorem wk_X4_copyFrom_26_14 (Z : CSp) (w : Wd)   : Wm (EC Z) MX4_copyFrom_26_14 oVw w 0 [(0, Value.ref (aC Z 26)), (1, Value.ref (aC Z 14))] [] (f_X4_copyFrom 26 14 w) := by
  unfold f_X4_copyFrom
  refine r_aload_n dX4_copyFrom_0 0 rfl ?_
  refine r_aload_n dX4_copyFrom_1 1 rfl ?_
  refine r_get FX4 0 (Nat.le_of_ble_eq_true rfl) kf_X4_9 14 (qC_14 Z w) rfl dX4_copyFrom_2 ?_
  refine r_puti FX4 tyX4_ok nmX4 kf_X4_9 (qC_26 Z w) ⟨(Nat.le_of_ble_eq_true rfl), (Nat.le_of_ble_eq_true rfl), rfl⟩ (by decide) (uC_26_0 Z w (w.1 14 0)) dX4_copyFrom_5 (fun w1 => ?_)
  refine r_aload_n dX4_copyFrom_8 0 rfl ?_
  refine r_aload_n dX4_copyFrom_9 1 rfl ?_
  refine r_get FX4 1 (Nat.le_of_ble_eq_true rfl) kf_X4_15 14 (qC_14 Z w1) rfl dX4_copyFrom_10 ?_
  refine r_puti FX4 tyX4_ok nmX4 kf_X4_15 (qC_26 Z w1) ⟨(Nat.le_of_ble_eq_true rfl), (Nat.le_of_ble_eq_true rfl), rfl⟩ (by decide) (uC_26_1 Z w1 (w1.1 14 1)) dX4_copyFrom_13 (fun w2 => ?_)
  refine r_aload_n dX4_copyFrom_16 1 rfl ?_
  refine r_get FX4 2 (Nat.le_of_ble_eq_true rfl) kf_X4_18 14 (qC_14 Z w2) rfl dX4_copyFrom_17 ?_
  refine r_iconst (v := 0) dX4_copyFrom_20 (by decide) ?_
  refine r_aload_n dX4_copyFrom_21 0 rfl ?_
  refine r_get FX4 2 (Nat.le_of_ble_eq_true rfl) kf_X4_18 26 (qC_26 Z w2) rfl dX4_copyFrom_22 ?_
  refine r_iconst (v := 0) dX4_copyFrom_25 (by decide) ?_
  refine r_iconst (v := 3) dX4_copyFrom_26 (by decide) ?_
  refine r_copy km_X4_31 (qC_15 Z w2) (qC_27 Z w2) rfl (by decide) (by decide) rfl (vC_27 Z w2) ⟨(Nat.le_of_ble_eq_true rfl), (Nat.le_of_ble_eq_true rfl)⟩ dX4_copyFrom_27 (fun w3 => ?_)
  refine r_aload_n dX4_copyFrom_30 1 rfl ?_
  refine r_get FX4 3 (Nat.le_of_ble_eq_true rfl) kf_X4_22 14 (qC_14 Z w3) rfl dX4_copyFrom_31 ?_
  refine r_iconst (v := 0) dX4_copyFrom_34 (by decide) ?_
  refine r_aload_n dX4_copyFrom_35 0 rfl ?_
  refine r_get FX4 3 (Nat.le_of_ble_eq_true rfl) kf_X4_22 26 (qC_26 Z w3) rfl dX4_copyFrom_36 ?_
  refine r_iconst (v := 0) dX4_copyFrom_39 (by decide) ?_
  refine r_bipush (v := 6) dX4_copyFrom_40 (by decide) ?_
  refine r_copy km_X4_31 (qC_16 Z w3) (qC_28 Z w3) rfl (by decide) (by decide) rfl (vC_28 Z w3) ⟨(Nat.le_of_ble_eq_true rfl), (Nat.le_of_ble_eq_true rfl)⟩ dX4_copyFrom_42 (fun w4 => ?_)
  refine r_aload_n dX4_copyFrom_45 1 rfl ?_
  refine r_get FX4 4 (Nat.le_of_ble_eq_true rfl) kf_X4_25 14 (qC_14 Z w4) rfl dX4_copyFrom_46 ?_
  refine r_iconst (v := 0) dX4_copyFrom_49 (by decide) ?_
  refine r_aload_n dX4_copyFrom_50 0 rfl ?_
  refine r_get FX4 4 (Nat.le_of_ble_eq_true rfl) kf_X4_25 26 (qC_26 Z w4) rfl dX4_copyFrom_51 ?_
  refine r_iconst (v := 0) dX4_copyFrom_54 (by decide) ?_
  refine r_sipush (v := 384) dX4_copyFrom_55 (by decide) ?_
  refine r_copy km_X4_31 (qC_17 Z w4) (qC_29 Z w4) rfl (by decide) (by decide) rfl (vC_29 Z w4) ⟨(Nat.le_of_ble_eq_true rfl), (Nat.le_of_ble_eq_true rfl)⟩ dX4_copyFrom_58 (fun w5 => ?_)
  exact r_vret rfl dX4_copyFrom_61
theorem m_X4_copyFrom_26_14 (Z : CSp) (w : Wd)  : MetM (EC Z) yX4_copyFrom cX4_copyFrom 2 none { frames := 1, cells := 0, slots := 0, locals := 40 } oVw [Value.ref (aC Z 26), Value.ref (aC Z 14)] w (f_X4_copyFrom 26 14 w) := MetM_of (plainFor_of_name (by decide)) (Nat.le_of_ble_eq_true rfl) (wk_X4_copyFrom_26_14 Z w )
abbrev MX4_copyFrom_30_14 : Mt := (cX4_copyFrom, RX4, 2, none, { frames := 1, cells := 0, slots := 0, locals := 40 })
set_option maxRecDepth 100000 in
set_option maxHeartbeats 4000000 in
theorem wk_X4_copyFrom_30_14 (Z : CSp) (w : Wd)   : Wm (EC Z) MX4_copyFrom_30_14 oVw w 0 [(0, Value.ref (aC Z 30)), (1, Value.ref (aC Z 14))] [] (f_X4_copyFrom 30 14 w) := by
  unfold f_X4_copyFrom
  refine r_aload_n dX4_copyFrom_0 0 rfl ?_
  refine r_aload_n dX4_copyFrom_1 1 rfl ?_
  refine r_get FX4 0 (Nat.le_of_ble_eq_true rfl) kf_X4_9 14 (qC_14 Z w) rfl dX4_copyFrom_2 ?_
  refine r_puti FX4 tyX4_ok nmX4 kf_X4_9 (qC_30 Z w) ⟨(Nat.le_of_ble_eq_true rfl), (Nat.le_of_ble_eq_true rfl), rfl⟩ (by decide) (uC_30_0 Z w (w.1 14 0)) dX4_copyFrom_5 (fun w1 => ?_)
  refine r_aload_n dX4_copyFrom_8 0 rfl ?_
  refine r_aload_n dX4_copyFrom_9 1 rfl ?_
  refine r_get FX4 1 (Nat.le_of_ble_eq_true rfl) kf_X4_15 14 (qC_14 Z w1) rfl dX4_copyFrom_10 ?_
  refine r_puti FX4 tyX4_ok nmX4 kf_X4_15 (qC_30 Z w1) ⟨(Nat.le_of_ble_eq_true rfl), (Nat.le_of_ble_eq_true rfl), rfl⟩ (by decide) (uC_30_1 Z w1 (w1.1 14 1)) dX4_copyFrom_13 (fun w2 => ?_)
  refine r_aload_n dX4_copyFrom_16 1 rfl ?_
  refine r_get FX4 2 (Nat.le_of_ble_eq_true rfl) kf_X4_18 14 (qC_14 Z w2) rfl dX4_copyFrom_17 ?_
  refine r_iconst (v := 0) dX4_copyFrom_20 (by decide) ?_
  refine r_aload_n dX4_copyFrom_21 0 rfl ?_
  refine r_get FX4 2 (Nat.le_of_ble_eq_true rfl) kf_X4_18 30 (qC_30 Z w2) rfl dX4_copyFrom_22 ?_
  refine r_iconst (v := 0) dX4_copyFrom_25 (by decide) ?_
  refine r_iconst (v := 3) dX4_copyFrom_26 (by decide) ?_
  refine r_copy km_X4_31 (qC_15 Z w2) (qC_31 Z w2) rfl (by decide) (by decide) rfl (vC_31 Z w2) ⟨(Nat.le_of_ble_eq_true rfl), (Nat.le_of_ble_eq_true rfl)⟩ dX4_copyFrom_27 (fun w3 => ?_)
  refine r_aload_n dX4_copyFrom_30 1 rfl ?_
  refine r_get FX4 3 (Nat.le_of_ble_eq_true rfl) kf_X4_22 14 (qC_14 Z w3) rfl dX4_copyFrom_31 ?_
  refine r_iconst (v := 0) dX4_copyFrom_34 (by decide) ?_
  refine r_aload_n dX4_copyFrom_35 0 rfl ?_
  refine r_get FX4 3 (Nat.le_of_ble_eq_true rfl) kf_X4_22 30 (qC_30 Z w3) rfl dX4_copyFrom_36 ?_
  refine r_iconst (v := 0) dX4_copyFrom_39 (by decide) ?_
  refine r_bipush (v := 6) dX4_copyFrom_40 (by decide) ?_
  refine r_copy km_X4_31 (qC_16 Z w3) (qC_32 Z w3) rfl (by decide) (by decide) rfl (vC_32 Z w3) ⟨(Nat.le_of_ble_eq_true rfl), (Nat.le_of_ble_eq_true rfl)⟩ dX4_copyFrom_42 (fun w4 => ?_)
  refine r_aload_n dX4_copyFrom_45 1 rfl ?_
  refine r_get FX4 4 (Nat.le_of_ble_eq_true rfl) kf_X4_25 14 (qC_14 Z w4) rfl dX4_copyFrom_46 ?_
  refine r_iconst (v := 0) dX4_copyFrom_49 (by decide) ?_
  refine r_aload_n dX4_copyFrom_50 0 rfl ?_
  refine r_get FX4 4 (Nat.le_of_ble_eq_true rfl) kf_X4_25 30 (qC_30 Z w4) rfl dX4_copyFrom_51 ?_
  refine r_iconst (v := 0) dX4_copyFrom_54 (by decide) ?_
  refine r_sipush (v := 384) dX4_copyFrom_55 (by decide) ?_
  refine r_copy km_X4_31 (qC_17 Z w4) (qC_33 Z w4) rfl (by decide) (by decide) rfl (vC_33 Z w4) ⟨(Nat.le_of_ble_eq_true rfl), (Nat.le_of_ble_eq_true rfl)⟩ dX4_copyFrom_58 (fun w5 => ?_)
  exact r_vret rfl dX4_copyFrom_61
theorem m_X4_copyFrom_30_14 (Z : CSp) (w : Wd)  : MetM (EC Z) yX4_copyFrom cX4_copyFrom 2 none { frames := 1, cells := 0, slots := 0, locals := 40 } oVw [Value.ref (aC Z 30), Value.ref (aC Z 14)] w (f_X4_copyFrom 30 14 w) := MetM_of (plainFor_of_name (by decide)) (Nat.le_of_ble_eq_true rfl) (wk_X4_copyFrom_30_14 Z w )
abbrev MX4_copyFrom_34_14 : Mt := (cX4_copyFrom, RX4, 2, none, { frames := 1, cells := 0, slots := 0, locals := 40 })
set_option maxRecDepth 100000 in
set_option maxHeartbeats 4000000 in
theorem wk_X4_copyFrom_34_14 (Z : CSp) (w : Wd)   : Wm (EC Z) MX4_copyFrom_34_14 oVw w 0 [(0, Value.ref (aC Z 34)), (1, Value.ref (aC Z 14))] [] (f_X4_copyFrom 34 14 w) := by
  unfold f_X4_copyFrom
  refine r_aload_n dX4_copyFrom_0 0 rfl ?_
  refine r_aload_n dX4_copyFrom_1 1 rfl ?_
  refine r_get FX4 0 (Nat.le_of_ble_eq_true rfl) kf_X4_9 14 (qC_14 Z w) rfl dX4_copyFrom_2 ?_
  refine r_puti FX4 tyX4_ok nmX4 kf_X4_9 (qC_34 Z w) ⟨(Nat.le_of_ble_eq_true rfl), (Nat.le_of_ble_eq_true rfl), rfl⟩ (by decide) (uC_34_0 Z w (w.1 14 0)) dX4_copyFrom_5 (fun w1 => ?_)
  refine r_aload_n dX4_copyFrom_8 0 rfl ?_
  refine r_aload_n dX4_copyFrom_9 1 rfl ?_
  refine r_get FX4 1 (Nat.le_of_ble_eq_true rfl) kf_X4_15 14 (qC_14 Z w1) rfl dX4_copyFrom_10 ?_
  refine r_puti FX4 tyX4_ok nmX4 kf_X4_15 (qC_34 Z w1) ⟨(Nat.le_of_ble_eq_true rfl), (Nat.le_of_ble_eq_true rfl), rfl⟩ (by decide) (uC_34_1 Z w1 (w1.1 14 1)) dX4_copyFrom_13 (fun w2 => ?_)
  refine r_aload_n dX4_copyFrom_16 1 rfl ?_
  refine r_get FX4 2 (Nat.le_of_ble_eq_true rfl) kf_X4_18 14 (qC_14 Z w2) rfl dX4_copyFrom_17 ?_
  refine r_iconst (v := 0) dX4_copyFrom_20 (by decide) ?_
  refine r_aload_n dX4_copyFrom_21 0 rfl ?_
  refine r_get FX4 2 (Nat.le_of_ble_eq_true rfl) kf_X4_18 34 (qC_34 Z w2) rfl dX4_copyFrom_22 ?_
  refine r_iconst (v := 0) dX4_copyFrom_25 (by decide) ?_
  refine r_iconst (v := 3) dX4_copyFrom_26 (by decide) ?_
  refine r_copy km_X4_31 (qC_15 Z w2) (qC_35 Z w2) rfl (by decide) (by decide) rfl (vC_35 Z w2) ⟨(Nat.le_of_ble_eq_true rfl), (Nat.le_of_ble_eq_true rfl)⟩ dX4_copyFrom_27 (fun w3 => ?_)
  refine r_aload_n dX4_copyFrom_30 1 rfl ?_
  refine r_get FX4 3 (Nat.le_of_ble_eq_true rfl) kf_X4_22 14 (qC_14 Z w3) rfl dX4_copyFrom_31 ?_
  refine r_iconst (v := 0) dX4_copyFrom_34 (by decide) ?_
  refine r_aload_n dX4_copyFrom_35 0 rfl ?_
  refine r_get FX4 3 (Nat.le_of_ble_eq_true rfl) kf_X4_22 34 (qC_34 Z w3) rfl dX4_copyFrom_36 ?_
  refine r_iconst (v := 0) dX4_copyFrom_39 (by decide) ?_
  refine r_bipush (v := 6) dX4_copyFrom_40 (by decide) ?_
  refine r_copy km_X4_31 (qC_16 Z w3) (qC_36 Z w3) rfl (by decide) (by decide) rfl (vC_36 Z w3) ⟨(Nat.le_of_ble_eq_true rfl), (Nat.le_of_ble_eq_true rfl)⟩ dX4_copyFrom_42 (fun w4 => ?_)
  refine r_aload_n dX4_copyFrom_45 1 rfl ?_
  refine r_get FX4 4 (Nat.le_of_ble_eq_true rfl) kf_X4_25 14 (qC_14 Z w4) rfl dX4_copyFrom_46 ?_
  refine r_iconst (v := 0) dX4_copyFrom_49 (by decide) ?_
  refine r_aload_n dX4_copyFrom_50 0 rfl ?_
  refine r_get FX4 4 (Nat.le_of_ble_eq_true rfl) kf_X4_25 34 (qC_34 Z w4) rfl dX4_copyFrom_51 ?_
  refine r_iconst (v := 0) dX4_copyFrom_54 (by decide) ?_
  refine r_sipush (v := 384) dX4_copyFrom_55 (by decide) ?_
  refine r_copy km_X4_31 (qC_17 Z w4) (qC_37 Z w4) rfl (by decide) (by decide) rfl (vC_37 Z w4) ⟨(Nat.le_of_ble_eq_true rfl), (Nat.le_of_ble_eq_true rfl)⟩ dX4_copyFrom_58 (fun w5 => ?_)
  exact r_vret rfl dX4_copyFrom_61
theorem m_X4_copyFrom_34_14 (Z : CSp) (w : Wd)  : MetM (EC Z) yX4_copyFrom cX4_copyFrom 2 none { frames := 1, cells := 0, slots := 0, locals := 40 } oVw [Value.ref (aC Z 34), Value.ref (aC Z 14)] w (f_X4_copyFrom 34 14 w) := MetM_of (plainFor_of_name (by decide)) (Nat.le_of_ble_eq_true rfl) (wk_X4_copyFrom_34_14 Z w )
abbrev MX4_copyFrom_10_18 : Mt := (cX4_copyFrom, RX4, 2, none, { frames := 1, cells := 0, slots := 0, locals := 40 })
set_option maxRecDepth 100000 in
set_option maxHeartbeats 4000000 in
theorem wk_X4_copyFrom_10_18 (Z : CSp) (w : Wd)   : Wm (EC Z) MX4_copyFrom_10_18 oVw w 0 [(0, Value.ref (aC Z 10)), (1, Value.ref (aC Z 18))] [] (f_X4_copyFrom 10 18 w) := by
  unfold f_X4_copyFrom
  refine r_aload_n dX4_copyFrom_0 0 rfl ?_
  refine r_aload_n dX4_copyFrom_1 1 rfl ?_
  refine r_get FX4 0 (Nat.le_of_ble_eq_true rfl) kf_X4_9 18 (qC_18 Z w) rfl dX4_copyFrom_2 ?_
  refine r_puti FX4 tyX4_ok nmX4 kf_X4_9 (qC_10 Z w) ⟨(Nat.le_of_ble_eq_true rfl), (Nat.le_of_ble_eq_true rfl), rfl⟩ (by decide) (uC_10_0 Z w (w.1 18 0)) dX4_copyFrom_5 (fun w1 => ?_)
  refine r_aload_n dX4_copyFrom_8 0 rfl ?_
  refine r_aload_n dX4_copyFrom_9 1 rfl ?_
  refine r_get FX4 1 (Nat.le_of_ble_eq_true rfl) kf_X4_15 18 (qC_18 Z w1) rfl dX4_copyFrom_10 ?_
  refine r_puti FX4 tyX4_ok nmX4 kf_X4_15 (qC_10 Z w1) ⟨(Nat.le_of_ble_eq_true rfl), (Nat.le_of_ble_eq_true rfl), rfl⟩ (by decide) (uC_10_1 Z w1 (w1.1 18 1)) dX4_copyFrom_13 (fun w2 => ?_)
  refine r_aload_n dX4_copyFrom_16 1 rfl ?_
  refine r_get FX4 2 (Nat.le_of_ble_eq_true rfl) kf_X4_18 18 (qC_18 Z w2) rfl dX4_copyFrom_17 ?_
  refine r_iconst (v := 0) dX4_copyFrom_20 (by decide) ?_
  refine r_aload_n dX4_copyFrom_21 0 rfl ?_
  refine r_get FX4 2 (Nat.le_of_ble_eq_true rfl) kf_X4_18 10 (qC_10 Z w2) rfl dX4_copyFrom_22 ?_
  refine r_iconst (v := 0) dX4_copyFrom_25 (by decide) ?_
  refine r_iconst (v := 3) dX4_copyFrom_26 (by decide) ?_
  refine r_copy km_X4_31 (qC_19 Z w2) (qC_11 Z w2) rfl (by decide) (by decide) rfl (vC_11 Z w2) ⟨(Nat.le_of_ble_eq_true rfl), (Nat.le_of_ble_eq_true rfl)⟩ dX4_copyFrom_27 (fun w3 => ?_)
  refine r_aload_n dX4_copyFrom_30 1 rfl ?_
  refine r_get FX4 3 (Nat.le_of_ble_eq_true rfl) kf_X4_22 18 (qC_18 Z w3) rfl dX4_copyFrom_31 ?_
  refine r_iconst (v := 0) dX4_copyFrom_34 (by decide) ?_
  refine r_aload_n dX4_copyFrom_35 0 rfl ?_
  refine r_get FX4 3 (Nat.le_of_ble_eq_true rfl) kf_X4_22 10 (qC_10 Z w3) rfl dX4_copyFrom_36 ?_
  refine r_iconst (v := 0) dX4_copyFrom_39 (by decide) ?_
  refine r_bipush (v := 6) dX4_copyFrom_40 (by decide) ?_
  refine r_copy km_X4_31 (qC_20 Z w3) (qC_12 Z w3) rfl (by decide) (by decide) rfl (vC_12 Z w3) ⟨(Nat.le_of_ble_eq_true rfl), (Nat.le_of_ble_eq_true rfl)⟩ dX4_copyFrom_42 (fun w4 => ?_)
  refine r_aload_n dX4_copyFrom_45 1 rfl ?_
  refine r_get FX4 4 (Nat.le_of_ble_eq_true rfl) kf_X4_25 18 (qC_18 Z w4) rfl dX4_copyFrom_46 ?_
  refine r_iconst (v := 0) dX4_copyFrom_49 (by decide) ?_
  refine r_aload_n dX4_copyFrom_50 0 rfl ?_
  refine r_get FX4 4 (Nat.le_of_ble_eq_true rfl) kf_X4_25 10 (qC_10 Z w4) rfl dX4_copyFrom_51 ?_
  refine r_iconst (v := 0) dX4_copyFrom_54 (by decide) ?_
  refine r_sipush (v := 384) dX4_copyFrom_55 (by decide) ?_
  refine r_copy km_X4_31 (qC_21 Z w4) (qC_13 Z w4) rfl (by decide) (by decide) rfl (vC_13 Z w4) ⟨(Nat.le_of_ble_eq_true rfl), (Nat.le_of_ble_eq_true rfl)⟩ dX4_copyFrom_58 (fun w5 => ?_)
  exact r_vret rfl dX4_copyFrom_61
theorem m_X4_copyFrom_10_18 (Z : CSp) (w : Wd)  : MetM (EC Z) yX4_copyFrom cX4_copyFrom 2 none { frames := 1, cells := 0, slots := 0, locals := 40 } oVw [Value.ref (aC Z 10), Value.ref (aC Z 18)] w (f_X4_copyFrom 10 18 w) := MetM_of (plainFor_of_name (by decide)) (Nat.le_of_ble_eq_true rfl) (wk_X4_copyFrom_10_18 Z w )
abbrev MX4_copyFrom_10_22 : Mt := (cX4_copyFrom, RX4, 2, none, { frames := 1, cells := 0, slots := 0, locals := 40 })
set_option maxRecDepth 100000 in
set_option maxHeartbeats 4000000 in
theorem wk_X4_copyFrom_10_22 (Z : CSp) (w : Wd)   : Wm (EC Z) MX4_copyFrom_10_22 oVw w 0 [(0, Value.ref (aC Z 10)), (1, Value.ref (aC Z 22))] [] (f_X4_copyFrom 10 22 w) := by
  unfold f_X4_copyFrom
  refine r_aload_n dX4_copyFrom_0 0 rfl ?_
  refine r_aload_n dX4_copyFrom_1 1 rfl ?_
  refine r_get FX4 0 (Nat.le_of_ble_eq_true rfl) kf_X4_9 22 (qC_22 Z w) rfl dX4_copyFrom_2 ?_
  refine r_puti FX4 tyX4_ok nmX4 kf_X4_9 (qC_10 Z w) ⟨(Nat.le_of_ble_eq_true rfl), (Nat.le_of_ble_eq_true rfl), rfl⟩ (by decide) (uC_10_0 Z w (w.1 22 0)) dX4_copyFrom_5 (fun w1 => ?_)
  refine r_aload_n dX4_copyFrom_8 0 rfl ?_
  refine r_aload_n dX4_copyFrom_9 1 rfl ?_
  refine r_get FX4 1 (Nat.le_of_ble_eq_true rfl) kf_X4_15 22 (qC_22 Z w1) rfl dX4_copyFrom_10 ?_
  refine r_puti FX4 tyX4_ok nmX4 kf_X4_15 (qC_10 Z w1) ⟨(Nat.le_of_ble_eq_true rfl), (Nat.le_of_ble_eq_true rfl), rfl⟩ (by decide) (uC_10_1 Z w1 (w1.1 22 1)) dX4_copyFrom_13 (fun w2 => ?_)
  refine r_aload_n dX4_copyFrom_16 1 rfl ?_
  refine r_get FX4 2 (Nat.le_of_ble_eq_true rfl) kf_X4_18 22 (qC_22 Z w2) rfl dX4_copyFrom_17 ?_
  refine r_iconst (v := 0) dX4_copyFrom_20 (by decide) ?_
  refine r_aload_n dX4_copyFrom_21 0 rfl ?_
  refine r_get FX4 2 (Nat.le_of_ble_eq_true rfl) kf_X4_18 10 (qC_10 Z w2) rfl dX4_copyFrom_22 ?_
  refine r_iconst (v := 0) dX4_copyFrom_25 (by decide) ?_
  refine r_iconst (v := 3) dX4_copyFrom_26 (by decide) ?_
  refine r_copy km_X4_31 (qC_23 Z w2) (qC_11 Z w2) rfl (by decide) (by decide) rfl (vC_11 Z w2) ⟨(Nat.le_of_ble_eq_true rfl), (Nat.le_of_ble_eq_true rfl)⟩ dX4_copyFrom_27 (fun w3 => ?_)
  refine r_aload_n dX4_copyFrom_30 1 rfl ?_
  refine r_get FX4 3 (Nat.le_of_ble_eq_true rfl) kf_X4_22 22 (qC_22 Z w3) rfl dX4_copyFrom_31 ?_
  refine r_iconst (v := 0) dX4_copyFrom_34 (by decide) ?_
  refine r_aload_n dX4_copyFrom_35 0 rfl ?_
  refine r_get FX4 3 (Nat.le_of_ble_eq_true rfl) kf_X4_22 10 (qC_10 Z w3) rfl dX4_copyFrom_36 ?_
  refine r_iconst (v := 0) dX4_copyFrom_39 (by decide) ?_
  refine r_bipush (v := 6) dX4_copyFrom_40 (by decide) ?_
  refine r_copy km_X4_31 (qC_24 Z w3) (qC_12 Z w3) rfl (by decide) (by decide) rfl (vC_12 Z w3) ⟨(Nat.le_of_ble_eq_true rfl), (Nat.le_of_ble_eq_true rfl)⟩ dX4_copyFrom_42 (fun w4 => ?_)
  refine r_aload_n dX4_copyFrom_45 1 rfl ?_
  refine r_get FX4 4 (Nat.le_of_ble_eq_true rfl) kf_X4_25 22 (qC_22 Z w4) rfl dX4_copyFrom_46 ?_
  refine r_iconst (v := 0) dX4_copyFrom_49 (by decide) ?_
  refine r_aload_n dX4_copyFrom_50 0 rfl ?_
  refine r_get FX4 4 (Nat.le_of_ble_eq_true rfl) kf_X4_25 10 (qC_10 Z w4) rfl dX4_copyFrom_51 ?_
  refine r_iconst (v := 0) dX4_copyFrom_54 (by decide) ?_
  refine r_sipush (v := 384) dX4_copyFrom_55 (by decide) ?_
  refine r_copy km_X4_31 (qC_25 Z w4) (qC_13 Z w4) rfl (by decide) (by decide) rfl (vC_13 Z w4) ⟨(Nat.le_of_ble_eq_true rfl), (Nat.le_of_ble_eq_true rfl)⟩ dX4_copyFrom_58 (fun w5 => ?_)
  exact r_vret rfl dX4_copyFrom_61
theorem m_X4_copyFrom_10_22 (Z : CSp) (w : Wd)  : MetM (EC Z) yX4_copyFrom cX4_copyFrom 2 none { frames := 1, cells := 0, slots := 0, locals := 40 } oVw [Value.ref (aC Z 10), Value.ref (aC Z 22)] w (f_X4_copyFrom 10 22 w) := MetM_of (plainFor_of_name (by decide)) (Nat.le_of_ble_eq_true rfl) (wk_X4_copyFrom_10_22 Z w )
abbrev MX4_copyFrom_10_26 : Mt := (cX4_copyFrom, RX4, 2, none, { frames := 1, cells := 0, slots := 0, locals := 40 })
set_option maxRecDepth 100000 in
set_option maxHeartbeats 4000000 in
theorem wk_X4_copyFrom_10_26 (Z : CSp) (w : Wd)   : Wm (EC Z) MX4_copyFrom_10_26 oVw w 0 [(0, Value.ref (aC Z 10)), (1, Value.ref (aC Z 26))] [] (f_X4_copyFrom 10 26 w) := by
  unfold f_X4_copyFrom
  refine r_aload_n dX4_copyFrom_0 0 rfl ?_
  refine r_aload_n dX4_copyFrom_1 1 rfl ?_
  refine r_get FX4 0 (Nat.le_of_ble_eq_true rfl) kf_X4_9 26 (qC_26 Z w) rfl dX4_copyFrom_2 ?_
  refine r_puti FX4 tyX4_ok nmX4 kf_X4_9 (qC_10 Z w) ⟨(Nat.le_of_ble_eq_true rfl), (Nat.le_of_ble_eq_true rfl), rfl⟩ (by decide) (uC_10_0 Z w (w.1 26 0)) dX4_copyFrom_5 (fun w1 => ?_)
  refine r_aload_n dX4_copyFrom_8 0 rfl ?_
  refine r_aload_n dX4_copyFrom_9 1 rfl ?_
  refine r_get FX4 1 (Nat.le_of_ble_eq_true rfl) kf_X4_15 26 (qC_26 Z w1) rfl dX4_copyFrom_10 ?_
  refine r_puti FX4 tyX4_ok nmX4 kf_X4_15 (qC_10 Z w1) ⟨(Nat.le_of_ble_eq_true rfl), (Nat.le_of_ble_eq_true rfl), rfl⟩ (by decide) (uC_10_1 Z w1 (w1.1 26 1)) dX4_copyFrom_13 (fun w2 => ?_)
  refine r_aload_n dX4_copyFrom_16 1 rfl ?_
  refine r_get FX4 2 (Nat.le_of_ble_eq_true rfl) kf_X4_18 26 (qC_26 Z w2) rfl dX4_copyFrom_17 ?_
  refine r_iconst (v := 0) dX4_copyFrom_20 (by decide) ?_
  refine r_aload_n dX4_copyFrom_21 0 rfl ?_
  refine r_get FX4 2 (Nat.le_of_ble_eq_true rfl) kf_X4_18 10 (qC_10 Z w2) rfl dX4_copyFrom_22 ?_
  refine r_iconst (v := 0) dX4_copyFrom_25 (by decide) ?_
  refine r_iconst (v := 3) dX4_copyFrom_26 (by decide) ?_
  refine r_copy km_X4_31 (qC_27 Z w2) (qC_11 Z w2) rfl (by decide) (by decide) rfl (vC_11 Z w2) ⟨(Nat.le_of_ble_eq_true rfl), (Nat.le_of_ble_eq_true rfl)⟩ dX4_copyFrom_27 (fun w3 => ?_)
  refine r_aload_n dX4_copyFrom_30 1 rfl ?_
  refine r_get FX4 3 (Nat.le_of_ble_eq_true rfl) kf_X4_22 26 (qC_26 Z w3) rfl dX4_copyFrom_31 ?_
  refine r_iconst (v := 0) dX4_copyFrom_34 (by decide) ?_
  refine r_aload_n dX4_copyFrom_35 0 rfl ?_
  refine r_get FX4 3 (Nat.le_of_ble_eq_true rfl) kf_X4_22 10 (qC_10 Z w3) rfl dX4_copyFrom_36 ?_
  refine r_iconst (v := 0) dX4_copyFrom_39 (by decide) ?_
  refine r_bipush (v := 6) dX4_copyFrom_40 (by decide) ?_
  refine r_copy km_X4_31 (qC_28 Z w3) (qC_12 Z w3) rfl (by decide) (by decide) rfl (vC_12 Z w3) ⟨(Nat.le_of_ble_eq_true rfl), (Nat.le_of_ble_eq_true rfl)⟩ dX4_copyFrom_42 (fun w4 => ?_)
  refine r_aload_n dX4_copyFrom_45 1 rfl ?_
  refine r_get FX4 4 (Nat.le_of_ble_eq_true rfl) kf_X4_25 26 (qC_26 Z w4) rfl dX4_copyFrom_46 ?_
  refine r_iconst (v := 0) dX4_copyFrom_49 (by decide) ?_
  refine r_aload_n dX4_copyFrom_50 0 rfl ?_
  refine r_get FX4 4 (Nat.le_of_ble_eq_true rfl) kf_X4_25 10 (qC_10 Z w4) rfl dX4_copyFrom_51 ?_
  refine r_iconst (v := 0) dX4_copyFrom_54 (by decide) ?_
  refine r_sipush (v := 384) dX4_copyFrom_55 (by decide) ?_
  refine r_copy km_X4_31 (qC_29 Z w4) (qC_13 Z w4) rfl (by decide) (by decide) rfl (vC_13 Z w4) ⟨(Nat.le_of_ble_eq_true rfl), (Nat.le_of_ble_eq_true rfl)⟩ dX4_copyFrom_58 (fun w5 => ?_)
  exact r_vret rfl dX4_copyFrom_61
theorem m_X4_copyFrom_10_26 (Z : CSp) (w : Wd)  : MetM (EC Z) yX4_copyFrom cX4_copyFrom 2 none { frames := 1, cells := 0, slots := 0, locals := 40 } oVw [Value.ref (aC Z 10), Value.ref (aC Z 26)] w (f_X4_copyFrom 10 26 w) := MetM_of (plainFor_of_name (by decide)) (Nat.le_of_ble_eq_true rfl) (wk_X4_copyFrom_10_26 Z w )
abbrev MX4_copyFrom_10_30 : Mt := (cX4_copyFrom, RX4, 2, none, { frames := 1, cells := 0, slots := 0, locals := 40 })
set_option maxRecDepth 100000 in
set_option maxHeartbeats 4000000 in
theorem wk_X4_copyFrom_10_30 (Z : CSp) (w : Wd)   : Wm (EC Z) MX4_copyFrom_10_30 oVw w 0 [(0, Value.ref (aC Z 10)), (1, Value.ref (aC Z 30))] [] (f_X4_copyFrom 10 30 w) := by
  unfold f_X4_copyFrom
  refine r_aload_n dX4_copyFrom_0 0 rfl ?_
  refine r_aload_n dX4_copyFrom_1 1 rfl ?_
  refine r_get FX4 0 (Nat.le_of_ble_eq_true rfl) kf_X4_9 30 (qC_30 Z w) rfl dX4_copyFrom_2 ?_
  refine r_puti FX4 tyX4_ok nmX4 kf_X4_9 (qC_10 Z w) ⟨(Nat.le_of_ble_eq_true rfl), (Nat.le_of_ble_eq_true rfl), rfl⟩ (by decide) (uC_10_0 Z w (w.1 30 0)) dX4_copyFrom_5 (fun w1 => ?_)
  refine r_aload_n dX4_copyFrom_8 0 rfl ?_
  refine r_aload_n dX4_copyFrom_9 1 rfl ?_
  refine r_get FX4 1 (Nat.le_of_ble_eq_true rfl) kf_X4_15 30 (qC_30 Z w1) rfl dX4_copyFrom_10 ?_
  refine r_puti FX4 tyX4_ok nmX4 kf_X4_15 (qC_10 Z w1) ⟨(Nat.le_of_ble_eq_true rfl), (Nat.le_of_ble_eq_true rfl), rfl⟩ (by decide) (uC_10_1 Z w1 (w1.1 30 1)) dX4_copyFrom_13 (fun w2 => ?_)
  refine r_aload_n dX4_copyFrom_16 1 rfl ?_
  refine r_get FX4 2 (Nat.le_of_ble_eq_true rfl) kf_X4_18 30 (qC_30 Z w2) rfl dX4_copyFrom_17 ?_
  refine r_iconst (v := 0) dX4_copyFrom_20 (by decide) ?_
  refine r_aload_n dX4_copyFrom_21 0 rfl ?_
  refine r_get FX4 2 (Nat.le_of_ble_eq_true rfl) kf_X4_18 10 (qC_10 Z w2) rfl dX4_copyFrom_22 ?_
  refine r_iconst (v := 0) dX4_copyFrom_25 (by decide) ?_
  refine r_iconst (v := 3) dX4_copyFrom_26 (by decide) ?_
  refine r_copy km_X4_31 (qC_31 Z w2) (qC_11 Z w2) rfl (by decide) (by decide) rfl (vC_11 Z w2) ⟨(Nat.le_of_ble_eq_true rfl), (Nat.le_of_ble_eq_true rfl)⟩ dX4_copyFrom_27 (fun w3 => ?_)
  refine r_aload_n dX4_copyFrom_30 1 rfl ?_
  refine r_get FX4 3 (Nat.le_of_ble_eq_true rfl) kf_X4_22 30 (qC_30 Z w3) rfl dX4_copyFrom_31 ?_
  refine r_iconst (v := 0) dX4_copyFrom_34 (by decide) ?_
  refine r_aload_n dX4_copyFrom_35 0 rfl ?_
  refine r_get FX4 3 (Nat.le_of_ble_eq_true rfl) kf_X4_22 10 (qC_10 Z w3) rfl dX4_copyFrom_36 ?_
  refine r_iconst (v := 0) dX4_copyFrom_39 (by decide) ?_
  refine r_bipush (v := 6) dX4_copyFrom_40 (by decide) ?_
  refine r_copy km_X4_31 (qC_32 Z w3) (qC_12 Z w3) rfl (by decide) (by decide) rfl (vC_12 Z w3) ⟨(Nat.le_of_ble_eq_true rfl), (Nat.le_of_ble_eq_true rfl)⟩ dX4_copyFrom_42 (fun w4 => ?_)
  refine r_aload_n dX4_copyFrom_45 1 rfl ?_
  refine r_get FX4 4 (Nat.le_of_ble_eq_true rfl) kf_X4_25 30 (qC_30 Z w4) rfl dX4_copyFrom_46 ?_
  refine r_iconst (v := 0) dX4_copyFrom_49 (by decide) ?_
  refine r_aload_n dX4_copyFrom_50 0 rfl ?_
  refine r_get FX4 4 (Nat.le_of_ble_eq_true rfl) kf_X4_25 10 (qC_10 Z w4) rfl dX4_copyFrom_51 ?_
  refine r_iconst (v := 0) dX4_copyFrom_54 (by decide) ?_
  refine r_sipush (v := 384) dX4_copyFrom_55 (by decide) ?_
  refine r_copy km_X4_31 (qC_33 Z w4) (qC_13 Z w4) rfl (by decide) (by decide) rfl (vC_13 Z w4) ⟨(Nat.le_of_ble_eq_true rfl), (Nat.le_of_ble_eq_true rfl)⟩ dX4_copyFrom_58 (fun w5 => ?_)
  exact r_vret rfl dX4_copyFrom_61
theorem m_X4_copyFrom_10_30 (Z : CSp) (w : Wd)  : MetM (EC Z) yX4_copyFrom cX4_copyFrom 2 none { frames := 1, cells := 0, slots := 0, locals := 40 } oVw [Value.ref (aC Z 10), Value.ref (aC Z 30)] w (f_X4_copyFrom 10 30 w) := MetM_of (plainFor_of_name (by decide)) (Nat.le_of_ble_eq_true rfl) (wk_X4_copyFrom_10_30 Z w )
abbrev MX4_copyFrom_10_34 : Mt := (cX4_copyFrom, RX4, 2, none, { frames := 1, cells := 0, slots := 0, locals := 40 })
set_option maxRecDepth 100000 in
set_option maxHeartbeats 4000000 in
theorem wk_X4_copyFrom_10_34 (Z : CSp) (w : Wd)   : Wm (EC Z) MX4_copyFrom_10_34 oVw w 0 [(0, Value.ref (aC Z 10)), (1, Value.ref (aC Z 34))] [] (f_X4_copyFrom 10 34 w) := by
  unfold f_X4_copyFrom
  refine r_aload_n dX4_copyFrom_0 0 rfl ?_
  refine r_aload_n dX4_copyFrom_1 1 rfl ?_
  refine r_get FX4 0 (Nat.le_of_ble_eq_true rfl) kf_X4_9 34 (qC_34 Z w) rfl dX4_copyFrom_2 ?_
  refine r_puti FX4 tyX4_ok nmX4 kf_X4_9 (qC_10 Z w) ⟨(Nat.le_of_ble_eq_true rfl), (Nat.le_of_ble_eq_true rfl), rfl⟩ (by decide) (uC_10_0 Z w (w.1 34 0)) dX4_copyFrom_5 (fun w1 => ?_)
  refine r_aload_n dX4_copyFrom_8 0 rfl ?_
  refine r_aload_n dX4_copyFrom_9 1 rfl ?_
  refine r_get FX4 1 (Nat.le_of_ble_eq_true rfl) kf_X4_15 34 (qC_34 Z w1) rfl dX4_copyFrom_10 ?_
  refine r_puti FX4 tyX4_ok nmX4 kf_X4_15 (qC_10 Z w1) ⟨(Nat.le_of_ble_eq_true rfl), (Nat.le_of_ble_eq_true rfl), rfl⟩ (by decide) (uC_10_1 Z w1 (w1.1 34 1)) dX4_copyFrom_13 (fun w2 => ?_)
  refine r_aload_n dX4_copyFrom_16 1 rfl ?_
  refine r_get FX4 2 (Nat.le_of_ble_eq_true rfl) kf_X4_18 34 (qC_34 Z w2) rfl dX4_copyFrom_17 ?_
  refine r_iconst (v := 0) dX4_copyFrom_20 (by decide) ?_
  refine r_aload_n dX4_copyFrom_21 0 rfl ?_
  refine r_get FX4 2 (Nat.le_of_ble_eq_true rfl) kf_X4_18 10 (qC_10 Z w2) rfl dX4_copyFrom_22 ?_
  refine r_iconst (v := 0) dX4_copyFrom_25 (by decide) ?_
  refine r_iconst (v := 3) dX4_copyFrom_26 (by decide) ?_
  refine r_copy km_X4_31 (qC_35 Z w2) (qC_11 Z w2) rfl (by decide) (by decide) rfl (vC_11 Z w2) ⟨(Nat.le_of_ble_eq_true rfl), (Nat.le_of_ble_eq_true rfl)⟩ dX4_copyFrom_27 (fun w3 => ?_)
  refine r_aload_n dX4_copyFrom_30 1 rfl ?_
  refine r_get FX4 3 (Nat.le_of_ble_eq_true rfl) kf_X4_22 34 (qC_34 Z w3) rfl dX4_copyFrom_31 ?_
  refine r_iconst (v := 0) dX4_copyFrom_34 (by decide) ?_
  refine r_aload_n dX4_copyFrom_35 0 rfl ?_
  refine r_get FX4 3 (Nat.le_of_ble_eq_true rfl) kf_X4_22 10 (qC_10 Z w3) rfl dX4_copyFrom_36 ?_
  refine r_iconst (v := 0) dX4_copyFrom_39 (by decide) ?_
  refine r_bipush (v := 6) dX4_copyFrom_40 (by decide) ?_
  refine r_copy km_X4_31 (qC_36 Z w3) (qC_12 Z w3) rfl (by decide) (by decide) rfl (vC_12 Z w3) ⟨(Nat.le_of_ble_eq_true rfl), (Nat.le_of_ble_eq_true rfl)⟩ dX4_copyFrom_42 (fun w4 => ?_)
  refine r_aload_n dX4_copyFrom_45 1 rfl ?_
  refine r_get FX4 4 (Nat.le_of_ble_eq_true rfl) kf_X4_25 34 (qC_34 Z w4) rfl dX4_copyFrom_46 ?_
  refine r_iconst (v := 0) dX4_copyFrom_49 (by decide) ?_
  refine r_aload_n dX4_copyFrom_50 0 rfl ?_
  refine r_get FX4 4 (Nat.le_of_ble_eq_true rfl) kf_X4_25 10 (qC_10 Z w4) rfl dX4_copyFrom_51 ?_
  refine r_iconst (v := 0) dX4_copyFrom_54 (by decide) ?_
  refine r_sipush (v := 384) dX4_copyFrom_55 (by decide) ?_
  refine r_copy km_X4_31 (qC_37 Z w4) (qC_13 Z w4) rfl (by decide) (by decide) rfl (vC_13 Z w4) ⟨(Nat.le_of_ble_eq_true rfl), (Nat.le_of_ble_eq_true rfl)⟩ dX4_copyFrom_58 (fun w5 => ?_)
  exact r_vret rfl dX4_copyFrom_61
theorem m_X4_copyFrom_10_34 (Z : CSp) (w : Wd)  : MetM (EC Z) yX4_copyFrom cX4_copyFrom 2 none { frames := 1, cells := 0, slots := 0, locals := 40 } oVw [Value.ref (aC Z 10), Value.ref (aC Z 34)] w (f_X4_copyFrom 10 34 w) := MetM_of (plainFor_of_name (by decide)) (Nat.le_of_ble_eq_true rfl) (wk_X4_copyFrom_10_34 Z w )
theorem m_X4_copyFrom_S1 (Z : CSp) (w : Wd) {x : Int32} (h : inS x = true) : MetM (EC Z) yX4_copyFrom cX4_copyFrom 2 none { frames := 1, cells := 0, slots := 0, locals := 40 } oVw [Value.ref (aC Z (sc x)), Value.ref (aC Z 14)] w (f_X4_copyFrom (sc x) 14 w) := by
  rcases inS_cases h with rfl | rfl | rfl | rfl | rfl
  · exact m_X4_copyFrom_18_14 Z w
  · exact m_X4_copyFrom_22_14 Z w
  · exact m_X4_copyFrom_26_14 Z w
  · exact m_X4_copyFrom_30_14 Z w
  · exact m_X4_copyFrom_34_14 Z w
theorem m_X4_copyFrom_S2 (Z : CSp) (w : Wd) {x : Int32} (h : inS x = true) : MetM (EC Z) yX4_copyFrom cX4_copyFrom 2 none { frames := 1, cells := 0, slots := 0, locals := 40 } oVw [Value.ref (aC Z 10), Value.ref (aC Z (sc x))] w (f_X4_copyFrom 10 (sc x) w) := by
  rcases inS_cases h with rfl | rfl | rfl | rfl | rfl
  · exact m_X4_copyFrom_10_18 Z w
  · exact m_X4_copyFrom_10_22 Z w
  · exact m_X4_copyFrom_10_26 Z w
  · exact m_X4_copyFrom_10_30 Z w
  · exact m_X4_copyFrom_10_34 Z w
theorem r_copyS1 {τ : Type} {M : Mt} {O : τ → Option Value × Wd} {w : Wd} {pc : Nat} {lv : List (Nat × Value)} {st : List Value} {K : Wd → Option τ} {x : Int32} {i : Nat} (Z : CSp) (hk : Cond.methodLink M.2.1 i yX4_copyFrom ∈ GT) (hR : RmOk (mR M) { frames := 1, cells := 0, slots := 0, locals := 40 } 2) (hcat : (st.map fun v => v.category).sum ≤ 8) (d : decode M.1 pc = .ok (.invokevirtual i, 3)) (k : ∀ w1 : Wd, Wm (EC Z) M O w1 (pc + 3) lv st (K w1)) : Wm (EC Z) M O w pc lv (.ref (aC Z 14) :: .ref (aC Z (sc x)) :: st) (if inS x = true then (f_X4_copyFrom (sc x) 14 w).bind K else none) := by
  by_cases h : inS x = true
  · rw [if_pos h]
    obtain ⟨q, fs, hq⟩ := inS_cell Z w h
    exact r_callV_Vw [Value.ref (aC Z 14)] cfX4_copyFrom (m_X4_copyFrom_S1 Z w h) hk hR rfl rfl q hq (r := (RX4, TX4, 5)) rfl rfl hcat d k
  · rw [if_neg h]
    exact r_none
theorem r_copyS2 {τ : Type} {M : Mt} {O : τ → Option Value × Wd} {w : Wd} {pc : Nat} {lv : List (Nat × Value)} {st : List Value} {K : Wd → Option τ} {x : Int32} {i : Nat} (Z : CSp) (hk : Cond.methodLink M.2.1 i yX4_copyFrom ∈ GT) (hR : RmOk (mR M) { frames := 1, cells := 0, slots := 0, locals := 40 } 2) (hcat : (st.map fun v => v.category).sum ≤ 8) (d : decode M.1 pc = .ok (.invokevirtual i, 3)) (k : ∀ w1 : Wd, Wm (EC Z) M O w1 (pc + 3) lv st (K w1)) : Wm (EC Z) M O w pc lv (.ref (aC Z (sc x)) :: .ref (aC Z 10) :: st) (if inS x = true then (f_X4_copyFrom 10 (sc x) w).bind K else none) := by
  by_cases h : inS x = true
  · rw [if_pos h]
    exact r_callV_Vw [Value.ref (aC Z (sc x))] cfX4_copyFrom (m_X4_copyFrom_S2 Z w h) hk hR rfl rfl 10 (qC_10 Z w) (r := (RX4, TX4, 5)) rfl rfl hcat d k
  · rw [if_neg h]
    exact r_none
