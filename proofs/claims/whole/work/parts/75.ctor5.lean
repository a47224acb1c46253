/-! CONSTRUCTORS: Sight -/
set_option maxRecDepth 100000 in
set_option maxHeartbeats 4000000 in
theorem k_X2 (Z : CSp) (h0 : Nat) : MetK Z yX2_init cX2_init 1 { frames := 2, cells := 8, slots := 497, locals := 60 } h0 1 [.null, .null, .null, .null, .null, .int 0, .int 0, .int 0] (fun u => [(h0, .inr (1, [.ref (u.getD 0 0), .ref (u.getD 4 0), .ref (u.getD 5 0), .ref (u.getD 6 0), .ref (u.getD 7 0), .int 0, .int 0, .int 0])), (u.getD 0 0, .inr (2, [.int 3, .int 3, .ref (u.getD 1 0), .ref (u.getD 2 0), .ref (u.getD 3 0)])), (u.getD 1 0, .inl (cI Z, 3, .inl (va_cpy fWaves (fun _ => 0) 0 0 3))), (u.getD 2 0, .inl (cI Z, 6, .inl (va_cpy fSets (fun _ => 0) 0 0 6))), (u.getD 3 0, .inl (cI Z, 384, .inl (fun _ => 0))), (u.getD 4 0, .inl (cI Z, 32, .inl (fillG (fun _ => 0)))), (u.getD 5 0, .inl (cI Z, 32, .inl (fun _ => 0))), (u.getD 6 0, .inl (cI Z, 32, .inl (fun _ => 0))), (u.getD 7 0, .inl (cI Z, 3, .inl (fun _ => 0)))]) 8 497 := by
  refine MetK_of (by decide) rfl (Nat.le_of_ble_eq_true rfl) (fun A => ?_)
  refine h_aload dX2_init_0 0 rfl ?_
  refine h_obj km_X2_3 ⟨Nat.le_of_ble_eq_true rfl, Nat.le_of_ble_eq_true rfl⟩ dX2_init_1 ?_
  refine h_aload dX2_init_4 0 rfl ?_
  refine h_new (fs := [.int 0, .int 0, .null, .null, .null]) FX4 tyX4_ok kcl_X2_9 kia_X4 kin_X4 (by decide) (Nat.le_of_ble_eq_true rfl) (Nat.le_of_ble_eq_true rfl) dX2_init_5 (fun q1 => ?_)
  refine h_dup dX2_init_8 rfl ?_
  refine h_call (wr := [(h0, .inr (1, [.null, .null, .null, .null, .null, .int 0, .int 0, .int 0]))]) (k_X4 Z q1) ⟨rfl, rfl, rfl⟩ kc_X4_init kin_X4 ki_X4_init km_X2_11 (by decide +kernel) ⟨Nat.le_of_ble_eq_true rfl, Nat.le_of_ble_eq_true rfl⟩ ⟨Nat.le_of_ble_eq_true rfl, Nat.le_of_ble_eq_true rfl⟩ [1] [0] rfl rfl (by decide) (by decide) (Nat.le_of_ble_eq_true rfl) dX2_init_9 (fun u => ?_)
  obtain ⟨a1, e1⟩ : ∃ a, u.getD 0 0 = a := ⟨_, rfl⟩
  obtain ⟨a2, e2⟩ : ∃ a, u.getD 1 0 = a := ⟨_, rfl⟩
  obtain ⟨a3, e3⟩ : ∃ a, u.getD 2 0 = a := ⟨_, rfl⟩
  rw [e1, e2, e3]
  refine h_ws [(h0, .inr (1, [.null, .null, .null, .null, .null, .int 0, .int 0, .int 0])), (q1, .inr (2, [.int 3, .int 3, .ref a1, .ref a2, .ref a3])), (a1, .inl (cI Z, 3, .inl (va_cpy fWaves (fun _ => 0) 0 0 3))), (a2, .inl (cI Z, 6, .inl (va_cpy fSets (fun _ => 0) 0 0 6))), (a3, .inl (cI Z, 384, .inl (fun _ => 0)))] rfl ?_
  refine h_putF (j := 0) (ty := .object RX4) FX2 tyX2_ok nmX2 kf_X2_12 0 rfl ⟨by decide, Nat.le_of_ble_eq_true rfl, rfl, rfl⟩ (by decide +kernel) rfl rfl dX2_init_12 ?_
  refine h_aload dX2_init_15 0 rfl ?_
  refine h_bipush (x := 32) dX2_init_16 (by decide) ?_
  refine h_newa (N := 32) (by decide) (by decide) (by decide) (Nat.le_of_ble_eq_true rfl) (Nat.le_of_ble_eq_true rfl) dX2_init_18 (fun q2 => ?_)
  refine h_putF (j := 1) (ty := .array .int) FX2 tyX2_ok nmX2 kf_X2_18 0 rfl ⟨by decide, Nat.le_of_ble_eq_true rfl, rfl, rfl⟩ (by decide +kernel) rfl rfl dX2_init_20 ?_
  refine h_ws [(h0, .inr (1, [.ref q1, .ref q2, .null, .null, .null, .int 0, .int 0, .int 0])), (q1, .inr (2, [.int 3, .int 3, .ref a1, .ref a2, .ref a3])), (a1, .inl (cI Z, 3, .inl (va_cpy fWaves (fun _ => 0) 0 0 3))), (a2, .inl (cI Z, 6, .inl (va_cpy fSets (fun _ => 0) 0 0 6))), (a3, .inl (cI Z, 384, .inl (fun _ => 0))), (q2, .inl (cI Z, 32, .inl (fun _ => 0)))] rfl ?_
  refine h_aload dX2_init_23 0 rfl ?_
  refine h_bipush (x := 32) dX2_init_24 (by decide) ?_
  refine h_newa (N := 32) (by decide) (by decide) (by decide) (Nat.le_of_ble_eq_true rfl) (Nat.le_of_ble_eq_true rfl) dX2_init_26 (fun q3 => ?_)
  refine h_putF (j := 2) (ty := .array .int) FX2 tyX2_ok nmX2 kf_X2_22 0 rfl ⟨by decide, Nat.le_of_ble_eq_true rfl, rfl, rfl⟩ (by decide +kernel) rfl rfl dX2_init_28 ?_
  refine h_aload dX2_init_31 0 rfl ?_
  refine h_bipush (x := 32) dX2_init_32 (by decide) ?_
  refine h_newa (N := 32) (by decide) (by decide) (by decide) (Nat.le_of_ble_eq_true rfl) (Nat.le_of_ble_eq_true rfl) dX2_init_34 (fun q4 => ?_)
  refine h_putF (j := 3) (ty := .array .int) FX2 tyX2_ok nmX2 kf_X2_25 0 rfl ⟨by decide, Nat.le_of_ble_eq_true rfl, rfl, rfl⟩ (by decide +kernel) rfl rfl dX2_init_36 ?_
  refine h_ws [(h0, .inr (1, [.ref q1, .ref q2, .ref q3, .ref q4, .null, .int 0, .int 0, .int 0])), (q1, .inr (2, [.int 3, .int 3, .ref a1, .ref a2, .ref a3])), (a1, .inl (cI Z, 3, .inl (va_cpy fWaves (fun _ => 0) 0 0 3))), (a2, .inl (cI Z, 6, .inl (va_cpy fSets (fun _ => 0) 0 0 6))), (a3, .inl (cI Z, 384, .inl (fun _ => 0))), (q2, .inl (cI Z, 32, .inl (fun _ => 0))), (q3, .inl (cI Z, 32, .inl (fun _ => 0))), (q4, .inl (cI Z, 32, .inl (fun _ => 0)))] rfl ?_
  refine h_aload dX2_init_39 0 rfl ?_
  refine h_iconst (x := 3) dX2_init_40 (by decide) ?_
  refine h_newa (N := 3) (by decide) (by decide) (by decide) (Nat.le_of_ble_eq_true rfl) (Nat.le_of_ble_eq_true rfl) dX2_init_41 (fun q5 => ?_)
  refine h_putF (j := 4) (ty := .array .int) FX2 tyX2_ok nmX2 kf_X2_28 0 rfl ⟨by decide, Nat.le_of_ble_eq_true rfl, rfl, rfl⟩ (by decide +kernel) rfl rfl dX2_init_43 ?_
  refine h_ws [(h0, .inr (1, [.ref q1, .ref q2, .ref q3, .ref q4, .ref q5, .int 0, .int 0, .int 0])), (q1, .inr (2, [.int 3, .int 3, .ref a1, .ref a2, .ref a3])), (a1, .inl (cI Z, 3, .inl (va_cpy fWaves (fun _ => 0) 0 0 3))), (a2, .inl (cI Z, 6, .inl (va_cpy fSets (fun _ => 0) 0 0 6))), (a3, .inl (cI Z, 384, .inl (fun _ => 0))), (q2, .inl (cI Z, 32, .inl (fun _ => 0))), (q3, .inl (cI Z, 32, .inl (fun _ => 0))), (q4, .inl (cI Z, 32, .inl (fun _ => 0))), (q5, .inl (cI Z, 3, .inl (fun _ => 0)))] rfl ?_
  refine h_aload dX2_init_46 0 rfl ?_
  refine h_get FX2 1 (by decide) kf_X2_18 0 rfl rfl dX2_init_47 ?_
  refine h_iconst (x := -1) dX2_init_50 (by decide) ?_
  refine h_fill (q := 5) km_X2_31 rfl ⟨Nat.le_of_ble_eq_true rfl, Nat.le_of_ble_eq_true rfl⟩ ⟨Nat.le_of_ble_eq_true rfl, Nat.le_of_ble_eq_true rfl⟩ (Nat.le_of_ble_eq_true rfl) dX2_init_51 ?_
  exact h_ret [q1, a1, a2, a3, q2, q3, q4, q5] rfl ⟨rfl, rfl⟩ dX2_init_54
