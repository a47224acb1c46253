abbrev MX6_takesNumber : Mt := (cX6_takesNumber, RX6, 4, some .boolean, { frames := 3, cells := 0, slots := 0, locals := 64 })
def f_X6_takesNumber_b103 (s0 : Int32) (w : Wd) : Option (Int32 × Wd) :=
  if zb s0 = true then some (s0, w) else none
set_option maxRecDepth 100000 in
set_option maxHeartbeats 4000000 in
theorem wk_X6_takesNumber_b103 (Z : CSp) (w : Wd) (s0 : Int32)  : Wm (EM Z) MX6_takesNumber oIw w 103 [] [Value.int s0] (f_X6_takesNumber_b103 s0 w) := by
  unfold f_X6_takesNumber_b103
  exact r_zretw rfl dX6_takesNumber_103
def f_X6_takesNumber_b98 (w : Wd) : Option (Int32 × Wd) :=
  f_X6_takesNumber_b103 (1 : Int32) w
set_option maxRecDepth 100000 in
set_option maxHeartbeats 4000000 in
theorem wk_X6_takesNumber_b98 (Z : CSp) (w : Wd)   : Wm (EM Z) MX6_takesNumber oIw w 98 [] [] (f_X6_takesNumber_b98 w) := by
  unfold f_X6_takesNumber_b98
  refine r_iconst (v := 1) dX6_takesNumber_98 (by decide) ?_
  refine r_goto (tgt := 103) dX6_takesNumber_99 (by decide) ?_
  exact wk_X6_takesNumber_b103 Z w (1 : Int32)
def f_X6_takesNumber_b11 (x1 : Int32) (x2 : Int32) : Nat → Int32 → Wd → Option (Int32 × Wd)
  | 0, _, _ => none
  | n + 1, x3, w =>
  (f_X6_isAt (48 : Int32) (57 : Int32) w).bind (fun v7 => if v7 = 0 then (if inb x1 375 = true then (wput w 12 (x1).toNatClampNeg x3 (fun w8 => if x2 < (w8.1 0 24) then (f_X6_takesNumber_b98 w8) else ((f_X6_fails (w8.1 0 24) w8).bind (fun z9 => if z9.1 = 0 then (f_X6_takesNumber_b103 (0 : Int32) z9.2) else (f_X6_takesNumber_b98 z9.2))))) else none) else (if (w.1 0 24) = (x2 + (4 : Int32)) then ((f_X6_fails (w.1 0 24) w).bind (fun z12 => if zb z12.1 = true then some (z12.1, z12.2) else none)) else (if inb (w.1 0 24) 150 = true then (jlet ((((10 : Int32) * x3) + (w.1 5 (w.1 0 24).toNatClampNeg)) - (48 : Int32)) (fun y10 => wput w 0 24 ((w.1 0 24) + (1 : Int32)) (fun w11 => f_X6_takesNumber_b11 x1 x2 n y10 w11))) else none)))
set_option maxRecDepth 100000 in
set_option maxHeartbeats 4000000 in
theorem wk_X6_takesNumber_b11 (Z : CSp) (x1 : Int32) (x2 : Int32)  : ∀ (n : Nat) (x3 : Int32) (w : Wd), Wm (EM Z) MX6_takesNumber oIw w 11 [(0, Value.ref (aC Z 0)), (1, Value.int x1), (2, Value.int x2), (3, Value.int x3)] [] (f_X6_takesNumber_b11 x1 x2 n x3 w) := by
  intro n
  induction n with
  | zero =>
    intro x3 w
    exact r_none
  | succ n ih =>
    intro x3 w
    rw [f_X6_takesNumber_b11]
    refine r_aload_n dX6_takesNumber_11 0 rfl ?_
    refine r_bipush (v := 48) dX6_takesNumber_12 (by decide) ?_
    refine r_bipush (v := 57) dX6_takesNumber_14 (by decide) ?_
    refine r_callV_I [Value.int (48 : Int32), Value.int (57 : Int32)] cfX6_isAt (m_X6_isAt Z w (48 : Int32) (57 : Int32)) km_X6_233 ⟨rfl, rfl, (Nat.le_of_ble_eq_true rfl), (Nat.le_of_ble_eq_true rfl)⟩ rfl rfl 0 (qM_0 Z w) rfl rfl (Nat.le_of_ble_eq_true rfl) dX6_takesNumber_16 (fun v7 => ?_)
    refine r_if_eq (tgt := 72) dX6_takesNumber_19 (by decide) (fun _ => ?_) (fun _ => ?_)
    · refine r_aload_n dX6_takesNumber_72 0 rfl ?_
      refine r_get FX6 22 (Nat.le_of_ble_eq_true rfl) kf_X6_43 0 (qM_0 Z w) rfl dX6_takesNumber_73 ?_
      refine r_iload_n dX6_takesNumber_76 1 rfl ?_
      refine r_iload_n dX6_takesNumber_77 3 rfl ?_
      refine r_iast (qM_12 Z w) rfl (uM_12 Z w x3) dX6_takesNumber_78 (fun w8 => ?_)
      refine r_aload_n dX6_takesNumber_79 0 rfl ?_
      refine r_get FX6 24 (Nat.le_of_ble_eq_true rfl) kf_X6_230 0 (qM_0 Z w8) rfl dX6_takesNumber_80 ?_
      refine r_iload_n dX6_takesNumber_83 2 rfl ?_
      refine r_icmp_gt (tgt := 98) dX6_takesNumber_84 (by decide) (fun _ => ?_) (fun _ => ?_)
      · refine r_lv [] rfl ?_
        exact wk_X6_takesNumber_b98 Z w8
      · refine r_aload_n dX6_takesNumber_87 0 rfl ?_
        refine r_aload_n dX6_takesNumber_88 0 rfl ?_
        refine r_get FX6 24 (Nat.le_of_ble_eq_true rfl) kf_X6_230 0 (qM_0 Z w8) rfl dX6_takesNumber_89 ?_
        refine r_callV_Iw [Value.int (w8.1 0 24)] cfX6_fails (m_X6_fails Z w8 (w8.1 0 24)) km_X6_242 ⟨rfl, rfl, (Nat.le_of_ble_eq_true rfl), (Nat.le_of_ble_eq_true rfl)⟩ rfl rfl 0 (qM_0 Z w8) rfl rfl (Nat.le_of_ble_eq_true rfl) dX6_takesNumber_92 (fun z9 => ?_)
        refine r_if_eq (tgt := 102) dX6_takesNumber_95 (by decide) (fun _ => ?_) (fun _ => ?_)
        · refine r_iconst (v := 0) dX6_takesNumber_102 (by decide) ?_
          refine r_lv [] rfl ?_
          exact wk_X6_takesNumber_b103 Z z9.2 (0 : Int32)
        · refine r_lv [] rfl ?_
          exact wk_X6_takesNumber_b98 Z z9.2
    · refine r_aload_n dX6_takesNumber_22 0 rfl ?_
      refine r_get FX6 24 (Nat.le_of_ble_eq_true rfl) kf_X6_230 0 (qM_0 Z w) rfl dX6_takesNumber_23 ?_
      refine r_iload_n dX6_takesNumber_26 2 rfl ?_
      refine r_iconst (v := 4) dX6_takesNumber_27 (by decide) ?_
      refine r_iadd dX6_takesNumber_28 ?_
      refine r_icmp_ne (tgt := 41) dX6_takesNumber_29 (by decide) (fun _ => ?_) (fun _ => ?_)
      · refine r_bipush (v := 10) dX6_takesNumber_41 (by decide) ?_
        refine r_iload_n dX6_takesNumber_43 3 rfl ?_
        refine r_imul dX6_takesNumber_44 ?_
        refine r_aload_n dX6_takesNumber_45 0 rfl ?_
        refine r_get FX6 5 (Nat.le_of_ble_eq_true rfl) kf_X6_22 0 (qM_0 Z w) rfl dX6_takesNumber_46 ?_
        refine r_aload_n dX6_takesNumber_49 0 rfl ?_
        refine r_get FX6 24 (Nat.le_of_ble_eq_true rfl) kf_X6_230 0 (qM_0 Z w) rfl dX6_takesNumber_50 ?_
        refine r_iald 5 (qM_5 Z w) rfl dX6_takesNumber_53 ?_
        refine r_iadd dX6_takesNumber_54 ?_
        refine r_bipush (v := 48) dX6_takesNumber_55 (by decide) ?_
        refine r_isub dX6_takesNumber_57 ?_
        refine r_leti (fun y10 => ?_)
        refine r_istore_n (lv' := [(0, Value.ref (aC Z 0)), (1, Value.int x1), (2, Value.int x2), (3, Value.int y10)]) dX6_takesNumber_58 (Nat.le_of_ble_eq_true rfl) [1, 2, 3, 0] rfl ?_
        refine r_aload_n dX6_takesNumber_59 0 rfl ?_
        refine r_dup dX6_takesNumber_60 rfl ?_
        refine r_get FX6 24 (Nat.le_of_ble_eq_true rfl) kf_X6_230 0 (qM_0 Z w) rfl dX6_takesNumber_61 ?_
        refine r_iconst (v := 1) dX6_takesNumber_64 (by decide) ?_
        refine r_iadd dX6_takesNumber_65 ?_
        refine r_puti FX6 tyX6_ok nmX6 kf_X6_230 (qM_0 Z w) ⟨(Nat.le_of_ble_eq_true rfl), (Nat.le_of_ble_eq_true rfl), rfl⟩ (by decide) (uM_0_24 Z w ((w.1 0 24) + (1 : Int32))) dX6_takesNumber_66 (fun w11 => ?_)
        refine r_goto (tgt := 11) dX6_takesNumber_69 (by decide) ?_
        exact ih y10 w11
      · refine r_aload_n dX6_takesNumber_32 0 rfl ?_
        refine r_aload_n dX6_takesNumber_33 0 rfl ?_
        refine r_get FX6 24 (Nat.le_of_ble_eq_true rfl) kf_X6_230 0 (qM_0 Z w) rfl dX6_takesNumber_34 ?_
        refine r_callV_Iw [Value.int (w.1 0 24)] cfX6_fails (m_X6_fails Z w (w.1 0 24)) km_X6_242 ⟨rfl, rfl, (Nat.le_of_ble_eq_true rfl), (Nat.le_of_ble_eq_true rfl)⟩ rfl rfl 0 (qM_0 Z w) rfl rfl (Nat.le_of_ble_eq_true rfl) dX6_takesNumber_37 (fun z12 => ?_)
        exact r_zretw rfl dX6_takesNumber_40
def f_X6_takesNumber (x1 : Int32) (w : Wd) : Option (Int32 × Wd) :=
  (f_X6_blanks w).bind (fun w1 => jlet (w1.1 0 24) (fun y2 => f_X6_takesNumber_b11 x1 y2 FUEL (0 : Int32) w1))
set_option maxRecDepth 100000 in
set_option maxHeartbeats 4000000 in
theorem wk_X6_takesNumber (Z : CSp) (w : Wd) (x1 : Int32)  : Wm (EM Z) MX6_takesNumber oIw w 0 [(0, Value.ref (aC Z 0)), (1, Value.int x1)] [] (f_X6_takesNumber x1 w) := by
  unfold f_X6_takesNumber
  refine r_aload_n dX6_takesNumber_0 0 rfl ?_
  refine r_callV_Vw [] cfX6_blanks (m_X6_blanks Z w) km_X6_239 ⟨rfl, rfl, (Nat.le_of_ble_eq_true rfl), (Nat.le_of_ble_eq_true rfl)⟩ rfl rfl 0 (qM_0 Z w) rfl rfl (Nat.le_of_ble_eq_true rfl) dX6_takesNumber_1 (fun w1 => ?_)
  refine r_aload_n dX6_takesNumber_4 0 rfl ?_
  refine r_get FX6 24 (Nat.le_of_ble_eq_true rfl) kf_X6_230 0 (qM_0 Z w1) rfl dX6_takesNumber_5 ?_
  refine r_leti (fun y2 => ?_)
  refine r_istore_n (lv' := [(0, Value.ref (aC Z 0)), (1, Value.int x1), (2, Value.int y2)]) dX6_takesNumber_8 (Nat.le_of_ble_eq_true rfl) [1, 2, 0] rfl ?_
  refine r_iconst (v := 0) dX6_takesNumber_9 (by decide) ?_
  refine r_istore_n (lv' := [(0, Value.ref (aC Z 0)), (1, Value.int x1), (2, Value.int y2), (3, Value.int (0 : Int32))]) dX6_takesNumber_10 (Nat.le_of_ble_eq_true rfl) [1, 2, 3, 0] rfl ?_
  exact wk_X6_takesNumber_b11 Z x1 y2 FUEL (0 : Int32) w1
theorem m_X6_takesNumber (Z : CSp) (w : Wd) (x1 : Int32) : MetM (EM Z) yX6_takesNumber cX6_takesNumber 4 (some .boolean) { frames := 3, cells := 0, slots := 0, locals := 64 } oIw [Value.ref (aC Z 0), Value.int x1] w (f_X6_takesNumber x1 w) := MetM_of (plainFor_of_name (by decide)) (Nat.le_of_ble_eq_true rfl) (wk_X6_takesNumber Z w x1)
abbrev MX6_takesOrder : Mt := (cX6_takesOrder, RX6, 4, some .boolean, { frames := 4, cells := 0, slots := 0, locals := 87 })
def f_X6_takesOrder_b53 (x2 : Int32) : Nat → Int32 → Wd → Option (Int32 × Wd)
  | 0, _, _ => none
  | n + 1, x3, w =>
  if x2 ≤ x3 then ((f_X6_blanks w).bind (fun w7 => (f_X6_isAt (59 : Int32) (59 : Int32) w7).bind (fun v8 => if v8 = 0 then ((f_X6_fails (w7.1 0 24) w7).bind (fun z11 => if zb z11.1 = true then some (z11.1, z11.2) else none)) else (wput w7 0 24 ((w7.1 0 24) + (1 : Int32)) (fun w9 => wput w9 0 23 ((w9.1 0 23) + (1 : Int32)) (fun w10 => if zb (1 : Int32) = true then some ((1 : Int32), w10) else none)))))) else ((f_X6_takesNumber (((5 : Int32) * (w.1 0 23)) + x3) w).bind (fun z12 => if z12.1 = 0 then (if zb (0 : Int32) = true then some ((0 : Int32), z12.2) else none) else (f_X6_takesOrder_b53 x2 n (x3 + 1) z12.2)))
set_option maxRecDepth 100000 in
set_option maxHeartbeats 4000000 in
theorem wk_X6_takesOrder_b53 (Z : CSp) (x2 : Int32)  : ∀ (n : Nat) (x3 : Int32) (w : Wd), Wm (EM Z) MX6_takesOrder oIw w 53 [(0, Value.ref (aC Z 0)), (2, Value.int x2), (3, Value.int x3)] [] (f_X6_takesOrder_b53 x2 n x3 w) := by
  intro n
  induction n with
  | zero =>
    intro x3 w
    exact r_none
  | succ n ih =>
    intro x3 w
    rw [f_X6_takesOrder_b53]
    refine r_iload_n dX6_takesOrder_53 2 rfl ?_
    refine r_iload_n dX6_takesOrder_54 1 rfl ?_
    refine r_icmp_ge (tgt := 81) dX6_takesOrder_55 (by decide) (fun _ => ?_) (fun _ => ?_)
    · refine r_aload_n dX6_takesOrder_81 0 rfl ?_
      refine r_callV_Vw [] cfX6_blanks (m_X6_blanks Z w) km_X6_239 ⟨rfl, rfl, (Nat.le_of_ble_eq_true rfl), (Nat.le_of_ble_eq_true rfl)⟩ rfl rfl 0 (qM_0 Z w) rfl rfl (Nat.le_of_ble_eq_true rfl) dX6_takesOrder_82 (fun w7 => ?_)
      refine r_aload_n dX6_takesOrder_85 0 rfl ?_
      refine r_bipush (v := 59) dX6_takesOrder_86 (by decide) ?_
      refine r_bipush (v := 59) dX6_takesOrder_88 (by decide) ?_
      refine r_callV_I [Value.int (59 : Int32), Value.int (59 : Int32)] cfX6_isAt (m_X6_isAt Z w7 (59 : Int32) (59 : Int32)) km_X6_233 ⟨rfl, rfl, (Nat.le_of_ble_eq_true rfl), (Nat.le_of_ble_eq_true rfl)⟩ rfl rfl 0 (qM_0 Z w7) rfl rfl (Nat.le_of_ble_eq_true rfl) dX6_takesOrder_90 (fun v8 => ?_)
      refine r_if_ne (tgt := 105) dX6_takesOrder_93 (by decide) (fun _ => ?_) (fun _ => ?_)
      · refine r_aload_n dX6_takesOrder_105 0 rfl ?_
        refine r_dup dX6_takesOrder_106 rfl ?_
        refine r_get FX6 24 (Nat.le_of_ble_eq_true rfl) kf_X6_230 0 (qM_0 Z w7) rfl dX6_takesOrder_107 ?_
        refine r_iconst (v := 1) dX6_takesOrder_110 (by decide) ?_
        refine r_iadd dX6_takesOrder_111 ?_
        refine r_puti FX6 tyX6_ok nmX6 kf_X6_230 (qM_0 Z w7) ⟨(Nat.le_of_ble_eq_true rfl), (Nat.le_of_ble_eq_true rfl), rfl⟩ (by decide) (uM_0_24 Z w7 ((w7.1 0 24) + (1 : Int32))) dX6_takesOrder_112 (fun w9 => ?_)
        refine r_aload_n dX6_takesOrder_115 0 rfl ?_
        refine r_dup dX6_takesOrder_116 rfl ?_
        refine r_get FX6 23 (Nat.le_of_ble_eq_true rfl) kf_X6_248 0 (qM_0 Z w9) rfl dX6_takesOrder_117 ?_
        refine r_iconst (v := 1) dX6_takesOrder_120 (by decide) ?_
        refine r_iadd dX6_takesOrder_121 ?_
        refine r_puti FX6 tyX6_ok nmX6 kf_X6_248 (qM_0 Z w9) ⟨(Nat.le_of_ble_eq_true rfl), (Nat.le_of_ble_eq_true rfl), rfl⟩ (by decide) (uM_0_23 Z w9 ((w9.1 0 23) + (1 : Int32))) dX6_takesOrder_122 (fun w10 => ?_)
        refine r_iconst (v := 1) dX6_takesOrder_125 (by decide) ?_
        exact r_zretw rfl dX6_takesOrder_126
      · refine r_aload_n dX6_takesOrder_96 0 rfl ?_
        refine r_aload_n dX6_takesOrder_97 0 rfl ?_
        refine r_get FX6 24 (Nat.le_of_ble_eq_true rfl) kf_X6_230 0 (qM_0 Z w7) rfl dX6_takesOrder_98 ?_
        refine r_callV_Iw [Value.int (w7.1 0 24)] cfX6_fails (m_X6_fails Z w7 (w7.1 0 24)) km_X6_242 ⟨rfl, rfl, (Nat.le_of_ble_eq_true rfl), (Nat.le_of_ble_eq_true rfl)⟩ rfl rfl 0 (qM_0 Z w7) rfl rfl (Nat.le_of_ble_eq_true rfl) dX6_takesOrder_101 (fun z11 => ?_)
        exact r_zretw rfl dX6_takesOrder_104
    · refine r_aload_n dX6_takesOrder_58 0 rfl ?_
      refine r_iconst (v := 5) dX6_takesOrder_59 (by decide) ?_
      refine r_aload_n dX6_takesOrder_60 0 rfl ?_
      refine r_get FX6 23 (Nat.le_of_ble_eq_true rfl) kf_X6_248 0 (qM_0 Z w) rfl dX6_takesOrder_61 ?_
      refine r_imul dX6_takesOrder_64 ?_
      refine r_iload_n dX6_takesOrder_65 2 rfl ?_
      refine r_iadd dX6_takesOrder_66 ?_
      refine r_callV_Iw [Value.int (((5 : Int32) * (w.1 0 23)) + x3)] cfX6_takesNumber (m_X6_takesNumber Z w (((5 : Int32) * (w.1 0 23)) + x3)) km_X6_251 ⟨rfl, rfl, (Nat.le_of_ble_eq_true rfl), (Nat.le_of_ble_eq_true rfl)⟩ rfl rfl 0 (qM_0 Z w) rfl rfl (Nat.le_of_ble_eq_true rfl) dX6_takesOrder_67 (fun z12 => ?_)
      refine r_if_ne (tgt := 75) dX6_takesOrder_70 (by decide) (fun _ => ?_) (fun _ => ?_)
      · refine r_iinc (lv' := [(0, Value.ref (aC Z 0)), (2, Value.int x2), (3, Value.int (x3 + 1))]) dX6_takesOrder_75 2 rfl (by rfl) (Nat.le_of_ble_eq_true rfl) [1, 2, 0] rfl ?_
        refine r_goto (tgt := 53) dX6_takesOrder_78 (by decide) ?_
        exact ih (x3 + 1) z12.2
      · refine r_iconst (v := 0) dX6_takesOrder_73 (by decide) ?_
        exact r_zretw rfl dX6_takesOrder_74
def f_X6_takesOrder (w : Wd) : Option (Int32 × Wd) :=
  if inb (w.1 0 24) 150 = true then (jlet (w.1 5 (w.1 0 24).toNatClampNeg) (fun y1 => (f_X6_manyOf y1).bind (fun v2 => if v2 = (-10001 : Int32) then ((f_X6_fails (w.1 0 24) w).bind (fun z5 => if zb z5.1 = true then some (z5.1, z5.2) else none)) else (if inb (w.1 0 23) 75 = true then (wput w 11 (w.1 0 23).toNatClampNeg y1 (fun w3 => wput w3 0 24 ((w3.1 0 24) + (1 : Int32)) (fun w4 => f_X6_takesOrder_b53 v2 FUEL (0 : Int32) w4))) else none)))) else none
set_option maxRecDepth 100000 in
set_option maxHeartbeats 4000000 in
theorem wk_X6_takesOrder (Z : CSp) (w : Wd)   : Wm (EM Z) MX6_takesOrder oIw w 0 [(0, Value.ref (aC Z 0))] [] (f_X6_takesOrder w) := by
  unfold f_X6_takesOrder
  refine r_aload_n dX6_takesOrder_0 0 rfl ?_
  refine r_get FX6 5 (Nat.le_of_ble_eq_true rfl) kf_X6_22 0 (qM_0 Z w) rfl dX6_takesOrder_1 ?_
  refine r_aload_n dX6_takesOrder_4 0 rfl ?_
  refine r_get FX6 24 (Nat.le_of_ble_eq_true rfl) kf_X6_230 0 (qM_0 Z w) rfl dX6_takesOrder_5 ?_
  refine r_iald 5 (qM_5 Z w) rfl dX6_takesOrder_8 ?_
  refine r_leti (fun y1 => ?_)
  refine r_istore_n (lv' := [(0, Value.ref (aC Z 0)), (1, Value.int y1)]) dX6_takesOrder_9 (Nat.le_of_ble_eq_true rfl) [1, 0] rfl ?_
  refine r_iload_n dX6_takesOrder_10 1 rfl ?_
  refine r_callS_I [Value.int y1] cfX6_manyOf (m_X6_manyOf Z w y1) km_X6_245 ⟨rfl, rfl, (Nat.le_of_ble_eq_true rfl), (Nat.le_of_ble_eq_true rfl)⟩ rfl rfl (Nat.le_of_ble_eq_true rfl) dX6_takesOrder_11 (fun v2 => ?_)
  refine r_istore_n (lv' := [(0, Value.ref (aC Z 0)), (1, Value.int y1), (2, Value.int v2)]) dX6_takesOrder_14 (Nat.le_of_ble_eq_true rfl) [1, 2, 0] rfl ?_
  refine r_iload_n dX6_takesOrder_15 2 rfl ?_
  refine r_sipush (v := -10001) dX6_takesOrder_16 (by decide) ?_
  refine r_icmp_ne (tgt := 31) dX6_takesOrder_19 (by decide) (fun _ => ?_) (fun _ => ?_)
  · refine r_aload_n dX6_takesOrder_31 0 rfl ?_
    refine r_get FX6 21 (Nat.le_of_ble_eq_true rfl) kf_X6_40 0 (qM_0 Z w) rfl dX6_takesOrder_32 ?_
    refine r_aload_n dX6_takesOrder_35 0 rfl ?_
    refine r_get FX6 23 (Nat.le_of_ble_eq_true rfl) kf_X6_248 0 (qM_0 Z w) rfl dX6_takesOrder_36 ?_
    refine r_iload_n dX6_takesOrder_39 1 rfl ?_
    refine r_iast (qM_11 Z w) rfl (uM_11 Z w y1) dX6_takesOrder_40 (fun w3 => ?_)
    refine r_aload_n dX6_takesOrder_41 0 rfl ?_
    refine r_dup dX6_takesOrder_42 rfl ?_
    refine r_get FX6 24 (Nat.le_of_ble_eq_true rfl) kf_X6_230 0 (qM_0 Z w3) rfl dX6_takesOrder_43 ?_
    refine r_iconst (v := 1) dX6_takesOrder_46 (by decide) ?_
    refine r_iadd dX6_takesOrder_47 ?_
    refine r_puti FX6 tyX6_ok nmX6 kf_X6_230 (qM_0 Z w3) ⟨(Nat.le_of_ble_eq_true rfl), (Nat.le_of_ble_eq_true rfl), rfl⟩ (by decide) (uM_0_24 Z w3 ((w3.1 0 24) + (1 : Int32))) dX6_takesOrder_48 (fun w4 => ?_)
    refine r_iconst (v := 0) dX6_takesOrder_51 (by decide) ?_
    refine r_istore_n (lv' := [(0, Value.ref (aC Z 0)), (1, Value.int y1), (2, Value.int v2), (3, Value.int (0 : Int32))]) dX6_takesOrder_52 (Nat.le_of_ble_eq_true rfl) [1, 2, 3, 0] rfl ?_
    refine r_lv [0, 2, 3] rfl ?_
    exact wk_X6_takesOrder_b53 Z v2 FUEL (0 : Int32) w4
  · refine r_aload_n dX6_takesOrder_22 0 rfl ?_
    refine r_aload_n dX6_takesOrder_23 0 rfl ?_
    refine r_get FX6 24 (Nat.le_of_ble_eq_true rfl) kf_X6_230 0 (qM_0 Z w) rfl dX6_takesOrder_24 ?_
    refine r_callV_Iw [Value.int (w.1 0 24)] cfX6_fails (m_X6_fails Z w (w.1 0 24)) km_X6_242 ⟨rfl, rfl, (Nat.le_of_ble_eq_true rfl), (Nat.le_of_ble_eq_true rfl)⟩ rfl rfl 0 (qM_0 Z w) rfl rfl (Nat.le_of_ble_eq_true rfl) dX6_takesOrder_27 (fun z5 => ?_)
    exact r_zretw rfl dX6_takesOrder_30
theorem m_X6_takesOrder (Z : CSp) (w : Wd)  : MetM (EM Z) yX6_takesOrder cX6_takesOrder 4 (some .boolean) { frames := 4, cells := 0, slots := 0, locals := 87 } oIw [Value.ref (aC Z 0)] w (f_X6_takesOrder w) := MetM_of (plainFor_of_name (by decide)) (Nat.le_of_ble_eq_true rfl) (wk_X6_takesOrder Z w )
abbrev MX6_isRead : Mt := (cX6_isRead, RX6, 1, some .boolean, { frames := 5, cells := 0, slots := 0, locals := 110 })
def f_X6_isRead_b64 (s0 : Int32) (w : Wd) : Option (Int32 × Wd) :=
  if zb s0 = true then some (s0, w) else none
set_option maxRecDepth 100000 in
set_option maxHeartbeats 4000000 in
theorem wk_X6_isRead_b64 (Z : CSp) (w : Wd) (s0 : Int32)  : Wm (EM Z) MX6_isRead oIw w 64 [] [Value.int s0] (f_X6_isRead_b64 s0 w) := by
  unfold f_X6_isRead_b64
  exact r_zretw rfl dX6_isRead_64
def f_X6_isRead_b59 (w : Wd) : Option (Int32 × Wd) :=
  f_X6_isRead_b64 (1 : Int32) w
set_option maxRecDepth 100000 in
set_option maxHeartbeats 4000000 in
theorem wk_X6_isRead_b59 (Z : CSp) (w : Wd)   : Wm (EM Z) MX6_isRead oIw w 59 [] [] (f_X6_isRead_b59 w) := by
  unfold f_X6_isRead_b59
  refine r_iconst (v := 1) dX6_isRead_59 (by decide) ?_
  refine r_goto (tgt := 64) dX6_isRead_60 (by decide) ?_
  exact wk_X6_isRead_b64 Z w (1 : Int32)
def f_X6_isRead_b14  : Nat → Wd → Option (Int32 × Wd)
  | 0, _ => none
  | n + 1, w =>
  if (w.1 0 6) ≤ (w.1 0 24) then (if 0 < (w.1 0 23) then (f_X6_isRead_b59 w) else ((f_X6_fails (w.1 0 6) w).bind (fun z4 => if z4.1 = 0 then (f_X6_isRead_b64 (0 : Int32) z4.2) else (f_X6_isRead_b59 z4.2)))) else ((f_X6_takesOrder w).bind (fun z5 => if z5.1 = 0 then (if zb (0 : Int32) = true then some ((0 : Int32), z5.2) else none) else ((f_X6_blanks z5.2).bind (fun w6 => f_X6_isRead_b14 n w6))))
set_option maxRecDepth 100000 in
set_option maxHeartbeats 4000000 in
theorem wk_X6_isRead_b14 (Z : CSp)   : ∀ (n : Nat)  (w : Wd), Wm (EM Z) MX6_isRead oIw w 14 [(0, Value.ref (aC Z 0))] [] (f_X6_isRead_b14  n w) := by
  intro n
  induction n with
  | zero =>
    intro w
    exact r_none
  | succ n ih =>
    intro w
    rw [f_X6_isRead_b14]
    refine r_aload_n dX6_isRead_14 0 rfl ?_
    refine r_get FX6 24 (Nat.le_of_ble_eq_true rfl) kf_X6_230 0 (qM_0 Z w) rfl dX6_isRead_15 ?_
    refine r_aload_n dX6_isRead_18 0 rfl ?_
    refine r_get FX6 6 (Nat.le_of_ble_eq_true rfl) kf_X6_227 0 (qM_0 Z w) rfl dX6_isRead_19 ?_
    refine r_icmp_ge (tgt := 41) dX6_isRead_22 (by decide) (fun _ => ?_) (fun _ => ?_)
    · refine r_aload_n dX6_isRead_41 0 rfl ?_
      refine r_get FX6 23 (Nat.le_of_ble_eq_true rfl) kf_X6_248 0 (qM_0 Z w) rfl dX6_isRead_42 ?_
      refine r_if_gt (tgt := 59) dX6_isRead_45 (by decide) (fun _ => ?_) (fun _ => ?_)
      · refine r_lv [] rfl ?_
        exact wk_X6_isRead_b59 Z w
      · refine r_aload_n dX6_isRead_48 0 rfl ?_
        refine r_aload_n dX6_isRead_49 0 rfl ?_
        refine r_get FX6 6 (Nat.le_of_ble_eq_true rfl) kf_X6_227 0 (qM_0 Z w) rfl dX6_isRead_50 ?_
        refine r_callV_Iw [Value.int (w.1 0 6)] cfX6_fails (m_X6_fails Z w (w.1 0 6)) km_X6_242 ⟨rfl, rfl, (Nat.le_of_ble_eq_true rfl), (Nat.le_of_ble_eq_true rfl)⟩ rfl rfl 0 (qM_0 Z w) rfl rfl (Nat.le_of_ble_eq_true rfl) dX6_isRead_53 (fun z4 => ?_)
        refine r_if_eq (tgt := 63) dX6_isRead_56 (by decide) (fun _ => ?_) (fun _ => ?_)
        · refine r_iconst (v := 0) dX6_isRead_63 (by decide) ?_
          refine r_lv [] rfl ?_
          exact wk_X6_isRead_b64 Z z4.2 (0 : Int32)
        · refine r_lv [] rfl ?_
          exact wk_X6_isRead_b59 Z z4.2
    · refine r_aload_n dX6_isRead_25 0 rfl ?_
      refine r_callV_Iw [] cfX6_takesOrder (m_X6_takesOrder Z w) km_X6_254 ⟨rfl, rfl, (Nat.le_of_ble_eq_true rfl), (Nat.le_of_ble_eq_true rfl)⟩ rfl rfl 0 (qM_0 Z w) rfl rfl (Nat.le_of_ble_eq_true rfl) dX6_isRead_26 (fun z5 => ?_)
      refine r_if_ne (tgt := 34) dX6_isRead_29 (by decide) (fun _ => ?_) (fun _ => ?_)
      · refine r_aload_n dX6_isRead_34 0 rfl ?_
        refine r_callV_Vw [] cfX6_blanks (m_X6_blanks Z z5.2) km_X6_239 ⟨rfl, rfl, (Nat.le_of_ble_eq_true rfl), (Nat.le_of_ble_eq_true rfl)⟩ rfl rfl 0 (qM_0 Z z5.2) rfl rfl (Nat.le_of_ble_eq_true rfl) dX6_isRead_35 (fun w6 => ?_)
        refine r_goto (tgt := 14) dX6_isRead_38 (by decide) ?_
        exact ih w6
      · refine r_iconst (v := 0) dX6_isRead_32 (by decide) ?_
        exact r_zretw rfl dX6_isRead_33
def f_X6_isRead (w : Wd) : Option (Int32 × Wd) :=
  wput w 0 24 (0 : Int32) (fun w1 => wput w1 0 23 (0 : Int32) (fun w2 => (f_X6_blanks w2).bind (fun w3 => f_X6_isRead_b14 FUEL w3)))
set_option maxRecDepth 100000 in
set_option maxHeartbeats 4000000 in
theorem wk_X6_isRead (Z : CSp) (w : Wd)   : Wm (EM Z) MX6_isRead oIw w 0 [(0, Value.ref (aC Z 0))] [] (f_X6_isRead w) := by
  unfold f_X6_isRead
  refine r_aload_n dX6_isRead_0 0 rfl ?_
  refine r_iconst (v := 0) dX6_isRead_1 (by decide) ?_
  refine r_puti FX6 tyX6_ok nmX6 kf_X6_230 (qM_0 Z w) ⟨(Nat.le_of_ble_eq_true rfl), (Nat.le_of_ble_eq_true rfl), rfl⟩ (by decide) (uM_0_24 Z w (0 : Int32)) dX6_isRead_2 (fun w1 => ?_)
  refine r_aload_n dX6_isRead_5 0 rfl ?_
  refine r_iconst (v := 0) dX6_isRead_6 (by decide) ?_
  refine r_puti FX6 tyX6_ok nmX6 kf_X6_248 (qM_0 Z w1) ⟨(Nat.le_of_ble_eq_true rfl), (Nat.le_of_ble_eq_true rfl), rfl⟩ (by decide) (uM_0_23 Z w1 (0 : Int32)) dX6_isRead_7 (fun w2 => ?_)
  refine r_aload_n dX6_isRead_10 0 rfl ?_
  refine r_callV_Vw [] cfX6_blanks (m_X6_blanks Z w2) km_X6_239 ⟨rfl, rfl, (Nat.le_of_ble_eq_true rfl), (Nat.le_of_ble_eq_true rfl)⟩ rfl rfl 0 (qM_0 Z w2) rfl rfl (Nat.le_of_ble_eq_true rfl) dX6_isRead_11 (fun w3 => ?_)
  exact wk_X6_isRead_b14 Z FUEL w3
theorem m_X6_isRead (Z : CSp) (w : Wd)  : MetM (EM Z) yX6_isRead cX6_isRead 1 (some .boolean) { frames := 5, cells := 0, slots := 0, locals := 110 } oIw [Value.ref (aC Z 0)] w (f_X6_isRead w) := MetM_of (plainFor_of_name (by decide)) (Nat.le_of_ble_eq_true rfl) (wk_X6_isRead Z w )
abbrev MX6_does : Mt := (cX6_does, RX6, 3, some .int, { frames := 6, cells := 0, slots := 0, locals := 130 })
def f_X6_does_b42 (x1 : Int32) : Nat → Int32 → Wd → Option (Int32 × Wd)
  | 0, _, _ => none
  | n + 1, x2, w =>
  if (395 : Int32) ≤ x2 then (some (((-1000 : Int32) - x1), w)) else (if inb x2 395 = true then (if inb x2 395 = true then (wput w 1 (x2).toNatClampNeg (w.1 2 (x2).toNatClampNeg) (fun w2 => f_X6_does_b42 x1 n (x2 + 1) w2)) else none) else none)
set_option maxRecDepth 100000 in
set_option maxHeartbeats 4000000 in
theorem wk_X6_does_b42 (Z : CSp) (x1 : Int32)  : ∀ (n : Nat) (x2 : Int32) (w : Wd), Wm (EM Z) MX6_does oIw w 42 [(0, Value.ref (aC Z 0)), (1, Value.int x1), (2, Value.int x2)] [] (f_X6_does_b42 x1 n x2 w) := by
  intro n
  induction n with
  | zero =>
    intro x2 w
    exact r_none
  | succ n ih =>
    intro x2 w
    rw [f_X6_does_b42]
    refine r_iload_n dX6_does_42 2 rfl ?_
    refine r_sipush (v := 395) dX6_does_43 (by decide) ?_
    refine r_icmp_ge (tgt := 67) dX6_does_46 (by decide) (fun _ => ?_) (fun _ => ?_)
    · refine r_sipush (v := -1000) dX6_does_67 (by decide) ?_
      refine r_iload_n dX6_does_70 1 rfl ?_
      refine r_isub dX6_does_71 ?_
      exact r_iretw rfl dX6_does_72
    · refine r_aload_n dX6_does_49 0 rfl ?_
      refine r_get FX6 0 (Nat.le_of_ble_eq_true rfl) kf_X6_7 0 (qM_0 Z w) rfl dX6_does_50 ?_
      refine r_iload_n dX6_does_53 2 rfl ?_
      refine r_aload_n dX6_does_54 0 rfl ?_
      refine r_get FX6 1 (Nat.le_of_ble_eq_true rfl) kf_X6_13 0 (qM_0 Z w) rfl dX6_does_55 ?_
      refine r_iload_n dX6_does_58 2 rfl ?_
      refine r_iald 2 (qM_2 Z w) rfl dX6_does_59 ?_
      refine r_iast (qM_1 Z w) rfl (uM_1 Z w (w.1 2 (x2).toNatClampNeg)) dX6_does_60 (fun w2 => ?_)
      refine r_iinc (lv' := [(0, Value.ref (aC Z 0)), (1, Value.int x1), (2, Value.int (x2 + 1))]) dX6_does_61 2 rfl (by rfl) (Nat.le_of_ble_eq_true rfl) [1, 2, 0] rfl ?_
      refine r_goto (tgt := 42) dX6_does_64 (by decide) ?_
      exact ih (x2 + 1) w2
def f_X6_does_b21  : Nat → Int32 → Wd → Option (Int32 × Wd)
  | 0, _, _ => none
  | n + 1, x1, w =>
  if (w.1 0 23) ≤ x1 then ((f_X6_remembers w).bind (fun w3 => some ((w3.1 0 23), w3))) else ((f_X6_doneOne x1 w).bind (fun z4 => if z4.1 = (-10002 : Int32) then (f_X6_does_b42 x1 FUEL (0 : Int32) z4.2) else (f_X6_does_b21 n (x1 + 1) z4.2)))
set_option maxRecDepth 100000 in
set_option maxHeartbeats 4000000 in
theorem wk_X6_does_b21 (Z : CSp)   : ∀ (n : Nat) (x1 : Int32) (w : Wd), Wm (EM Z) MX6_does oIw w 21 [(0, Value.ref (aC Z 0)), (1, Value.int x1)] [] (f_X6_does_b21  n x1 w) := by
  intro n
  induction n with
  | zero =>
    intro x1 w
    exact r_none
  | succ n ih =>
    intro x1 w
    rw [f_X6_does_b21]
    refine r_iload_n dX6_does_21 1 rfl ?_
    refine r_aload_n dX6_does_22 0 rfl ?_
    refine r_get FX6 23 (Nat.le_of_ble_eq_true rfl) kf_X6_248 0 (qM_0 Z w) rfl dX6_does_23 ?_
    refine r_icmp_ge (tgt := 79) dX6_does_26 (by decide) (fun _ => ?_) (fun _ => ?_)
    · refine r_aload_n dX6_does_79 0 rfl ?_
      refine r_callV_Vw [] cfX6_remembers (m_X6_remembers Z w) km_X6_57 ⟨rfl, rfl, (Nat.le_of_ble_eq_true rfl), (Nat.le_of_ble_eq_true rfl)⟩ rfl rfl 0 (qM_0 Z w) rfl rfl (Nat.le_of_ble_eq_true rfl) dX6_does_80 (fun w3 => ?_)
      refine r_aload_n dX6_does_83 0 rfl ?_
      refine r_get FX6 23 (Nat.le_of_ble_eq_true rfl) kf_X6_248 0 (qM_0 Z w3) rfl dX6_does_84 ?_
      exact r_iretw rfl dX6_does_87
    · refine r_aload_n dX6_does_29 0 rfl ?_
      refine r_iload_n dX6_does_30 1 rfl ?_
      refine r_callV_Iw [Value.int x1] cfX6_doneOne (m_X6_doneOne Z w x1) km_X6_261 ⟨rfl, rfl, (Nat.le_of_ble_eq_true rfl), (Nat.le_of_ble_eq_true rfl)⟩ rfl rfl 0 (qM_0 Z w) rfl rfl (Nat.le_of_ble_eq_true rfl) dX6_does_31 (fun z4 => ?_)
      refine r_sipush (v := -10002) dX6_does_34 (by decide) ?_
      refine r_icmp_ne (tgt := 73) dX6_does_37 (by decide) (fun _ => ?_) (fun _ => ?_)
      · refine r_iinc (lv' := [(0, Value.ref (aC Z 0)), (1, Value.int (x1 + 1))]) dX6_does_73 1 rfl (by rfl) (Nat.le_of_ble_eq_true rfl) [1, 0] rfl ?_
        refine r_goto (tgt := 21) dX6_does_76 (by decide) ?_
        exact ih (x1 + 1) z4.2
      · refine r_iconst (v := 0) dX6_does_40 (by decide) ?_
        refine r_istore_n (lv' := [(0, Value.ref (aC Z 0)), (1, Value.int x1), (2, Value.int (0 : Int32))]) dX6_does_41 (Nat.le_of_ble_eq_true rfl) [1, 2, 0] rfl ?_
        exact wk_X6_does_b42 Z x1 FUEL (0 : Int32) z4.2
def f_X6_does (w : Wd) : Option (Int32 × Wd) :=
  (f_X6_isRead w).bind (fun z1 => if z1.1 = 0 then (some (((-10 : Int32) - (z1.2.1 0 25)), z1.2)) else ((f_X6_laysAside z1.2).bind (fun w2 => f_X6_does_b21 FUEL (0 : Int32) w2)))
set_option maxRecDepth 100000 in
set_option maxHeartbeats 4000000 in
theorem wk_X6_does (Z : CSp) (w : Wd)   : Wm (EM Z) MX6_does oIw w 0 [(0, Value.ref (aC Z 0))] [] (f_X6_does w) := by
  unfold f_X6_does
  refine r_aload_n dX6_does_0 0 rfl ?_
  refine r_callV_Iw [] cfX6_isRead (m_X6_isRead Z w) km_X6_258 ⟨rfl, rfl, (Nat.le_of_ble_eq_true rfl), (Nat.le_of_ble_eq_true rfl)⟩ rfl rfl 0 (qM_0 Z w) rfl rfl (Nat.le_of_ble_eq_true rfl) dX6_does_1 (fun z1 => ?_)
  refine r_if_ne (tgt := 15) dX6_does_4 (by decide) (fun _ => ?_) (fun _ => ?_)
  · refine r_aload_n dX6_does_15 0 rfl ?_
    refine r_callV_Vw [] cfX6_laysAside (m_X6_laysAside Z z1.2) km_X6_89 ⟨rfl, rfl, (Nat.le_of_ble_eq_true rfl), (Nat.le_of_ble_eq_true rfl)⟩ rfl rfl 0 (qM_0 Z z1.2) rfl rfl (Nat.le_of_ble_eq_true rfl) dX6_does_16 (fun w2 => ?_)
    refine r_iconst (v := 0) dX6_does_19 (by decide) ?_
    refine r_istore_n (lv' := [(0, Value.ref (aC Z 0)), (1, Value.int (0 : Int32))]) dX6_does_20 (Nat.le_of_ble_eq_true rfl) [1, 0] rfl ?_
    exact wk_X6_does_b21 Z FUEL (0 : Int32) w2
  · refine r_bipush (v := -10) dX6_does_7 (by decide) ?_
    refine r_aload_n dX6_does_9 0 rfl ?_
    refine r_get FX6 25 (Nat.le_of_ble_eq_true rfl) kf_X6_236 0 (qM_0 Z z1.2) rfl dX6_does_10 ?_
    refine r_isub dX6_does_13 ?_
    exact r_iretw rfl dX6_does_14
theorem m_X6_does (Z : CSp) (w : Wd)  : MetM (EM Z) yX6_does cX6_does 3 (some .int) { frames := 6, cells := 0, slots := 0, locals := 130 } oIw [Value.ref (aC Z 0)] w (f_X6_does w) := MetM_of (plainFor_of_name (by decide)) (Nat.le_of_ble_eq_true rfl) (wk_X6_does Z w )
abbrev MX6_echo : Mt := (cX6_echo, RX6, 6, some .int, { frames := 3, cells := 0, slots := 0, locals := 79 })
def f_X6_echo (x1 : Int32) (x2 : Int32) (x3 : Int32) (x4 : Int32) (x5 : Int32) (w : Wd) : Option (Int32 × Wd) :=
  (f_X6_laysAside w).bind (fun w1 => (f_X6_putEcho x1 x2 x3 x4 x5 w1).bind (fun z2 => (f_X6_finished z2.1 z2.2).bind (fun z3 => some (z3.1, z3.2))))
set_option maxRecDepth 100000 in
set_option maxHeartbeats 4000000 in
theorem wk_X6_echo (Z : CSp) (w : Wd) (x1 : Int32) (x2 : Int32) (x3 : Int32) (x4 : Int32) (x5 : Int32)  : Wm (EM Z) MX6_echo oIw w 0 [(0, Value.ref (aC Z 0)), (1, Value.int x1), (2, Value.int x2), (3, Value.int x3), (4, Value.int x4), (5, Value.int x5)] [] (f_X6_echo x1 x2 x3 x4 x5 w) := by
  unfold f_X6_echo
  refine r_aload_n dX6_echo_0 0 rfl ?_
  refine r_callV_Vw [] cfX6_laysAside (m_X6_laysAside Z w) km_X6_89 ⟨rfl, rfl, (Nat.le_of_ble_eq_true rfl), (Nat.le_of_ble_eq_true rfl)⟩ rfl rfl 0 (qM_0 Z w) rfl rfl (Nat.le_of_ble_eq_true rfl) dX6_echo_1 (fun w1 => ?_)
  refine r_aload_n dX6_echo_4 0 rfl ?_
  refine r_aload_n dX6_echo_5 0 rfl ?_
  refine r_iload_n dX6_echo_6 1 rfl ?_
  refine r_iload_n dX6_echo_7 2 rfl ?_
  refine r_iload_n dX6_echo_8 3 rfl ?_
  refine r_iload dX6_echo_9 4 rfl ?_
  refine r_iload dX6_echo_11 5 rfl ?_
  refine r_callV_Iw [Value.int x1, Value.int x2, Value.int x3, Value.int x4, Value.int x5] cfX6_putEcho (m_X6_putEcho Z w1 x1 x2 x3 x4 x5) km_X6_107 ⟨rfl, rfl, (Nat.le_of_ble_eq_true rfl), (Nat.le_of_ble_eq_true rfl)⟩ rfl rfl 0 (qM_0 Z w1) rfl rfl (Nat.le_of_ble_eq_true rfl) dX6_echo_13 (fun z2 => ?_)
  refine r_callV_Iw [Value.int z2.1] cfX6_finished (m_X6_finished Z z2.2 z2.1) km_X6_95 ⟨rfl, rfl, (Nat.le_of_ble_eq_true rfl), (Nat.le_of_ble_eq_true rfl)⟩ rfl rfl 0 (qM_0 Z z2.2) rfl rfl (Nat.le_of_ble_eq_true rfl) dX6_echo_16 (fun z3 => ?_)
  exact r_iretw rfl dX6_echo_19
theorem m_X6_echo (Z : CSp) (w : Wd) (x1 : Int32) (x2 : Int32) (x3 : Int32) (x4 : Int32) (x5 : Int32) : MetM (EM Z) yX6_echo cX6_echo 6 (some .int) { frames := 3, cells := 0, slots := 0, locals := 79 } oIw [Value.ref (aC Z 0), Value.int x1, Value.int x2, Value.int x3, Value.int x4, Value.int x5] w (f_X6_echo x1 x2 x3 x4 x5 w) := MetM_of (plainFor_of_name (by decide)) (Nat.le_of_ble_eq_true rfl) (wk_X6_echo Z w x1 x2 x3 x4 x5)
abbrev MX6_glow : Mt := (cX6_glow, RX6, 4, some .int, { frames := 4, cells := 0, slots := 0, locals := 84 })
def f_X6_glow_b30 (s0 : Int32) (w : Wd) : Option (Int32 × Wd) :=
  some (s0, w)
set_option maxRecDepth 100000 in
set_option maxHeartbeats 4000000 in
theorem wk_X6_glow_b30 (Z : CSp) (w : Wd) (s0 : Int32)  : Wm (EM Z) MX6_glow oIw w 30 [] [Value.int s0] (f_X6_glow_b30 s0 w) := by
  unfold f_X6_glow_b30
  exact r_iretw rfl dX6_glow_30
def f_X6_glow (x1 : Int32) (x2 : Int32) (x3 : Int32) (w : Wd) : Option (Int32 × Wd) :=
  (f_X6_isCell x1 x2 x3 w).bind (fun v1 => if v1 = 0 then ((f_X6_bad w).bind (fun z2 => f_X6_glow_b30 z2.1 z2.2)) else ((f_X6_cellPlace x1 x2 x3).bind (fun v3 => (f_X6_glowOf v3 w).bind (fun v4 => (f_Jxf58ca_floatToIntBits_5c35a v4).bind (fun v5 => f_X6_glow_b30 v5 w)))))
set_option maxRecDepth 100000 in
set_option maxHeartbeats 4000000 in
theorem wk_X6_glow (Z : CSp) (w : Wd) (x1 : Int32) (x2 : Int32) (x3 : Int32)  : Wm (EM Z) MX6_glow oIw w 0 [(0, Value.ref (aC Z 0)), (1, Value.int x1), (2, Value.int x2), (3, Value.int x3)] [] (f_X6_glow x1 x2 x3 w) := by
  unfold f_X6_glow
  refine r_aload_n dX6_glow_0 0 rfl ?_
  refine r_iload_n dX6_glow_1 1 rfl ?_
  refine r_iload_n dX6_glow_2 2 rfl ?_
  refine r_iload_n dX6_glow_3 3 rfl ?_
  refine r_callV_I [Value.int x1, Value.int x2, Value.int x3] cfX6_isCell (m_X6_isCell Z w x1 x2 x3) km_X6_69 ⟨rfl, rfl, (Nat.le_of_ble_eq_true rfl), (Nat.le_of_ble_eq_true rfl)⟩ rfl rfl 0 (qM_0 Z w) rfl rfl (Nat.le_of_ble_eq_true rfl) dX6_glow_4 (fun v1 => ?_)
  refine r_if_eq (tgt := 26) dX6_glow_7 (by decide) (fun _ => ?_) (fun _ => ?_)
  · refine r_aload_n dX6_glow_26 0 rfl ?_
    refine r_callV_Iw [] cfX6_bad (m_X6_bad Z w) km_X6_54 ⟨rfl, rfl, (Nat.le_of_ble_eq_true rfl), (Nat.le_of_ble_eq_true rfl)⟩ rfl rfl 0 (qM_0 Z w) rfl rfl (Nat.le_of_ble_eq_true rfl) dX6_glow_27 (fun z2 => ?_)
    refine r_lv [] rfl ?_
    exact wk_X6_glow_b30 Z z2.2 z2.1
  · refine r_aload_n dX6_glow_10 0 rfl ?_
    refine r_iload_n dX6_glow_11 1 rfl ?_
    refine r_iload_n dX6_glow_12 2 rfl ?_
    refine r_iload_n dX6_glow_13 3 rfl ?_
    refine r_callS_I [Value.int x1, Value.int x2, Value.int x3] cfX6_cellPlace (m_X6_cellPlace Z w x1 x2 x3) km_X6_72 ⟨rfl, rfl, (Nat.le_of_ble_eq_true rfl), (Nat.le_of_ble_eq_true rfl)⟩ rfl rfl (Nat.le_of_ble_eq_true rfl) dX6_glow_14 (fun v3 => ?_)
    refine r_callV_F [Value.int v3] cfX6_glowOf (m_X6_glowOf Z w v3) km_X6_190 ⟨rfl, rfl, (Nat.le_of_ble_eq_true rfl), (Nat.le_of_ble_eq_true rfl)⟩ rfl rfl 0 (qM_0 Z w) rfl rfl (Nat.le_of_ble_eq_true rfl) dX6_glow_17 (fun v4 => ?_)
    refine r_callS_I [Value.float v4] cfJxf58ca_floatToIntBits_5c35a (m_Jxf58ca_floatToIntBits_5c35a Z w v4) km_X6_146 ⟨rfl, rfl, (Nat.le_of_ble_eq_true rfl), (Nat.le_of_ble_eq_true rfl)⟩ rfl rfl (Nat.le_of_ble_eq_true rfl) dX6_glow_20 (fun v5 => ?_)
    refine r_goto (tgt := 30) dX6_glow_23 (by decide) ?_
    refine r_lv [] rfl ?_
    exact wk_X6_glow_b30 Z w v5
theorem m_X6_glow (Z : CSp) (w : Wd) (x1 : Int32) (x2 : Int32) (x3 : Int32) : MetM (EM Z) yX6_glow cX6_glow 4 (some .int) { frames := 4, cells := 0, slots := 0, locals := 84 } oIw [Value.ref (aC Z 0), Value.int x1, Value.int x2, Value.int x3] w (f_X6_glow x1 x2 x3 w) := MetM_of (plainFor_of_name (by decide)) (Nat.le_of_ble_eq_true rfl) (wk_X6_glow Z w x1 x2 x3)
abbrev MX6_grid : Mt := (cX6_grid, RX6, 3, some .int, { frames := 2, cells := 0, slots := 0, locals := 46 })
def f_X6_grid (x1 : Int32) (x2 : Int32) (w : Wd) : Option (Int32 × Wd) :=
  (f_X6_laysAside w).bind (fun w1 => (f_X6_putGrid x1 x2 w1).bind (fun z2 => (f_X6_finished z2.1 z2.2).bind (fun z3 => some (z3.1, z3.2))))
set_option maxRecDepth 100000 in
set_option maxHeartbeats 4000000 in
theorem wk_X6_grid (Z : CSp) (w : Wd) (x1 : Int32) (x2 : Int32)  : Wm (EM Z) MX6_grid oIw w 0 [(0, Value.ref (aC Z 0)), (1, Value.int x1), (2, Value.int x2)] [] (f_X6_grid x1 x2 w) := by
  unfold f_X6_grid
  refine r_aload_n dX6_grid_0 0 rfl ?_
  refine r_callV_Vw [] cfX6_laysAside (m_X6_laysAside Z w) km_X6_89 ⟨rfl, rfl, (Nat.le_of_ble_eq_true rfl), (Nat.le_of_ble_eq_true rfl)⟩ rfl rfl 0 (qM_0 Z w) rfl rfl (Nat.le_of_ble_eq_true rfl) dX6_grid_1 (fun w1 => ?_)
  refine r_aload_n dX6_grid_4 0 rfl ?_
  refine r_aload_n dX6_grid_5 0 rfl ?_
  refine r_iload_n dX6_grid_6 1 rfl ?_
  refine r_iload_n dX6_grid_7 2 rfl ?_
  refine r_callV_Iw [Value.int x1, Value.int x2] cfX6_putGrid (m_X6_putGrid Z w1 x1 x2) km_X6_92 ⟨rfl, rfl, (Nat.le_of_ble_eq_true rfl), (Nat.le_of_ble_eq_true rfl)⟩ rfl rfl 0 (qM_0 Z w1) rfl rfl (Nat.le_of_ble_eq_true rfl) dX6_grid_8 (fun z2 => ?_)
  refine r_callV_Iw [Value.int z2.1] cfX6_finished (m_X6_finished Z z2.2 z2.1) km_X6_95 ⟨rfl, rfl, (Nat.le_of_ble_eq_true rfl), (Nat.le_of_ble_eq_true rfl)⟩ rfl rfl 0 (qM_0 Z z2.2) rfl rfl (Nat.le_of_ble_eq_true rfl) dX6_grid_11 (fun z3 => ?_)
  exact r_iretw rfl dX6_grid_14
theorem m_X6_grid (Z : CSp) (w : Wd) (x1 : Int32) (x2 : Int32) : MetM (EM Z) yX6_grid cX6_grid 3 (some .int) { frames := 2, cells := 0, slots := 0, locals := 46 } oIw [Value.ref (aC Z 0), Value.int x1, Value.int x2] w (f_X6_grid x1 x2 w) := MetM_of (plainFor_of_name (by decide)) (Nat.le_of_ble_eq_true rfl) (wk_X6_grid Z w x1 x2)
abbrev MX6_mark : Mt := (cX6_mark, RX6, 4, some .int, { frames := 5, cells := 0, slots := 0, locals := 111 })
def f_X6_mark (x1 : Int32) (x2 : Int32) (x3 : Int32) (w : Wd) : Option (Int32 × Wd) :=
  (f_X6_isCell x1 x2 x3 w).bind (fun v1 => if v1 = 0 then ((f_X6_bad w).bind (fun z4 => some (z4.1, z4.2))) else ((f_X6_cellPlace x1 x2 x3).bind (fun v2 => (f_X6_looksAt v2 w).bind (fun w3 => some ((w3.1 0 7), w3)))))
set_option maxRecDepth 100000 in
set_option maxHeartbeats 4000000 in
theorem wk_X6_mark (Z : CSp) (w : Wd) (x1 : Int32) (x2 : Int32) (x3 : Int32)  : Wm (EM Z) MX6_mark oIw w 0 [(0, Value.ref (aC Z 0)), (1, Value.int x1), (2, Value.int x2), (3, Value.int x3)] [] (f_X6_mark x1 x2 x3 w) := by
  unfold f_X6_mark
  refine r_aload_n dX6_mark_0 0 rfl ?_
  refine r_iload_n dX6_mark_1 1 rfl ?_
  refine r_iload_n dX6_mark_2 2 rfl ?_
  refine r_iload_n dX6_mark_3 3 rfl ?_
  refine r_callV_I [Value.int x1, Value.int x2, Value.int x3] cfX6_isCell (m_X6_isCell Z w x1 x2 x3) km_X6_69 ⟨rfl, rfl, (Nat.le_of_ble_eq_true rfl), (Nat.le_of_ble_eq_true rfl)⟩ rfl rfl 0 (qM_0 Z w) rfl rfl (Nat.le_of_ble_eq_true rfl) dX6_mark_4 (fun v1 => ?_)
  refine r_if_ne (tgt := 15) dX6_mark_7 (by decide) (fun _ => ?_) (fun _ => ?_)
  · refine r_aload_n dX6_mark_15 0 rfl ?_
    refine r_iload_n dX6_mark_16 1 rfl ?_
    refine r_iload_n dX6_mark_17 2 rfl ?_
    refine r_iload_n dX6_mark_18 3 rfl ?_
    refine r_callS_I [Value.int x1, Value.int x2, Value.int x3] cfX6_cellPlace (m_X6_cellPlace Z w x1 x2 x3) km_X6_72 ⟨rfl, rfl, (Nat.le_of_ble_eq_true rfl), (Nat.le_of_ble_eq_true rfl)⟩ rfl rfl (Nat.le_of_ble_eq_true rfl) dX6_mark_19 (fun v2 => ?_)
    refine r_callV_Vw [Value.int v2] cfX6_looksAt (m_X6_looksAt Z w v2) km_X6_187 ⟨rfl, rfl, (Nat.le_of_ble_eq_true rfl), (Nat.le_of_ble_eq_true rfl)⟩ rfl rfl 0 (qM_0 Z w) rfl rfl (Nat.le_of_ble_eq_true rfl) dX6_mark_22 (fun w3 => ?_)
    refine r_aload_n dX6_mark_25 0 rfl ?_
    refine r_get FX6 7 (Nat.le_of_ble_eq_true rfl) kf_X6_174 0 (qM_0 Z w3) rfl dX6_mark_26 ?_
    exact r_iretw rfl dX6_mark_29
  · refine r_aload_n dX6_mark_10 0 rfl ?_
    refine r_callV_Iw [] cfX6_bad (m_X6_bad Z w) km_X6_54 ⟨rfl, rfl, (Nat.le_of_ble_eq_true rfl), (Nat.le_of_ble_eq_true rfl)⟩ rfl rfl 0 (qM_0 Z w) rfl rfl (Nat.le_of_ble_eq_true rfl) dX6_mark_11 (fun z4 => ?_)
    exact r_iretw rfl dX6_mark_14
theorem m_X6_mark (Z : CSp) (w : Wd) (x1 : Int32) (x2 : Int32) (x3 : Int32) : MetM (EM Z) yX6_mark cX6_mark 4 (some .int) { frames := 5, cells := 0, slots := 0, locals := 111 } oIw [Value.ref (aC Z 0), Value.int x1, Value.int x2, Value.int x3] w (f_X6_mark x1 x2 x3 w) := MetM_of (plainFor_of_name (by decide)) (Nat.le_of_ble_eq_true rfl) (wk_X6_mark Z w x1 x2 x3)
abbrev MX6_marks : Mt := (cX6_marks, RX6, 6, some .int, { frames := 6, cells := 0, slots := 0, locals := 134 })
def f_X6_marks_b80 (x2 : Int32) (x4 : Int32) (x5 : Int32) (s0 : Int32) (s1 : Int32) (k47 : Int32 → Int32 → Wd → Option (Int32 × Wd)) (w : Wd) : Option (Int32 × Wd) :=
  jlet (s1 + s0) (fun y2 => k47 y2 (x5 + 1) w)
set_option maxRecDepth 100000 in
set_option maxHeartbeats 4000000 in
theorem wk_X6_marks_b80 (Z : CSp) (w : Wd) (x2 : Int32) (x4 : Int32) (x5 : Int32) (s0 : Int32) (s1 : Int32) (k47 : Int32 → Int32 → Wd → Option (Int32 × Wd)) (hk47 : ∀ (x3 : Int32) (x5 : Int32) (w : Wd), Wm (EM Z) MX6_marks oIw w 47 [(0, Value.ref (aC Z 0)), (2, Value.int x2), (3, Value.int x3), (4, Value.int x4), (5, Value.int x5)] [] (k47 x3 x5 w)) : Wm (EM Z) MX6_marks oIw w 80 [(0, Value.ref (aC Z 0)), (2, Value.int x2), (4, Value.int x4), (5, Value.int x5)] [Value.int s0, Value.int s1] (f_X6_marks_b80 x2 x4 x5 s0 s1 k47 w) := by
  unfold f_X6_marks_b80
  refine r_iadd dX6_marks_80 ?_
  refine r_leti (fun y2 => ?_)
  refine r_istore_n (lv' := [(0, Value.ref (aC Z 0)), (2, Value.int x2), (3, Value.int y2), (4, Value.int x4), (5, Value.int x5)]) dX6_marks_81 (Nat.le_of_ble_eq_true rfl) [1, 2, 0, 3, 4] rfl ?_
  refine r_iinc (lv' := [(0, Value.ref (aC Z 0)), (2, Value.int x2), (3, Value.int y2), (4, Value.int x4), (5, Value.int (x5 + 1))]) dX6_marks_82 4 rfl (by rfl) (Nat.le_of_ble_eq_true rfl) [1, 2, 3, 4, 0] rfl ?_
  refine r_goto (tgt := 47) dX6_marks_85 (by decide) ?_
  exact hk47 y2 (x5 + 1) w
def f_X6_marks_b47 (x2 : Int32) (x4 : Int32) (k33 : Int32 → Int32 → Wd → Option (Int32 × Wd)) : Nat → Int32 → Int32 → Wd → Option (Int32 × Wd)
  | 0, _, _, _ => none
  | n + 1, x3, x5, w =>
  if inb (0 : Int32) 395 = true then (if (w.1 1 ((0 : Int32)).toNatClampNeg) ≤ x5 then (k33 x3 (x4 + 1) w) else (if inb (((4 : Int32) * x4) + x5) 16 = true then (if (w.1 7 (((4 : Int32) * x4) + x5).toNatClampNeg) = x2 then (f_X6_marks_b80 x2 x4 x5 (1 : Int32) x3 (f_X6_marks_b47 x2 x4 k33 n) w) else (f_X6_marks_b80 x2 x4 x5 (0 : Int32) x3 (f_X6_marks_b47 x2 x4 k33 n) w)) else none)) else none
set_option maxRecDepth 100000 in
set_option maxHeartbeats 4000000 in
theorem wk_X6_marks_b47 (Z : CSp) (x2 : Int32) (x4 : Int32) (k33 : Int32 → Int32 → Wd → Option (Int32 × Wd)) (hk33 : ∀ (x3 : Int32) (x4 : Int32) (w : Wd), Wm (EM Z) MX6_marks oIw w 33 [(0, Value.ref (aC Z 0)), (2, Value.int x2), (3, Value.int x3), (4, Value.int x4)] [] (k33 x3 x4 w)) : ∀ (n : Nat) (x3 : Int32) (x5 : Int32) (w : Wd), Wm (EM Z) MX6_marks oIw w 47 [(0, Value.ref (aC Z 0)), (2, Value.int x2), (3, Value.int x3), (4, Value.int x4), (5, Value.int x5)] [] (f_X6_marks_b47 x2 x4 k33 n x3 x5 w) := by
  intro n
  induction n with
  | zero =>
    intro x3 x5 w
    exact r_none
  | succ n ih =>
    intro x3 x5 w
    rw [f_X6_marks_b47]
    refine r_iload dX6_marks_47 4 rfl ?_
    refine r_aload_n dX6_marks_49 0 rfl ?_
    refine r_get FX6 0 (Nat.le_of_ble_eq_true rfl) kf_X6_7 0 (qM_0 Z w) rfl dX6_marks_50 ?_
    refine r_iconst (v := 0) dX6_marks_53 (by decide) ?_
    refine r_iald 1 (qM_1 Z w) rfl dX6_marks_54 ?_
    refine r_icmp_ge (tgt := 88) dX6_marks_55 (by decide) (fun _ => ?_) (fun _ => ?_)
    · refine r_iinc (lv' := [(0, Value.ref (aC Z 0)), (2, Value.int x2), (3, Value.int x3), (4, Value.int (x4 + 1)), (5, Value.int x5)]) dX6_marks_88 3 rfl (by rfl) (Nat.le_of_ble_eq_true rfl) [1, 2, 3, 0, 4] rfl ?_
      refine r_goto (tgt := 33) dX6_marks_91 (by decide) ?_
      refine r_lv [0, 1, 2, 3] rfl ?_
      exact hk33 x3 (x4 + 1) w
    · refine r_iload_n dX6_marks_58 2 rfl ?_
      refine r_aload_n dX6_marks_59 0 rfl ?_
      refine r_get FX6 14 (Nat.le_of_ble_eq_true rfl) kf_X6_28 0 (qM_0 Z w) rfl dX6_marks_60 ?_
      refine r_iconst (v := 4) dX6_marks_63 (by decide) ?_
      refine r_iload dX6_marks_64 3 rfl ?_
      refine r_imul dX6_marks_66 ?_
      refine r_iload dX6_marks_67 4 rfl ?_
      refine r_iadd dX6_marks_69 ?_
      refine r_iald 7 (qM_7 Z w) rfl dX6_marks_70 ?_
      refine r_iload_n dX6_marks_71 1 rfl ?_
      refine r_icmp_ne (tgt := 79) dX6_marks_72 (by decide) (fun _ => ?_) (fun _ => ?_)
      · refine r_iconst (v := 0) dX6_marks_79 (by decide) ?_
        refine r_lv [0, 1, 3, 4] rfl ?_
        exact wk_X6_marks_b80 Z w x2 x4 x5 (0 : Int32) x3 _ (ih)
      · refine r_iconst (v := 1) dX6_marks_75 (by decide) ?_
        refine r_goto (tgt := 80) dX6_marks_76 (by decide) ?_
        refine r_lv [0, 1, 3, 4] rfl ?_
        exact wk_X6_marks_b80 Z w x2 x4 x5 (1 : Int32) x3 _ (ih)
def f_X6_marks_b33 (x2 : Int32) : Nat → Int32 → Int32 → Wd → Option (Int32 × Wd)
  | 0, _, _, _ => none
  | n + 1, x3, x4, w =>
  if inb (1 : Int32) 395 = true then (if (w.1 1 ((1 : Int32)).toNatClampNeg) ≤ x4 then (some (x3, w)) else (f_X6_marks_b47 x2 x4 (f_X6_marks_b33 x2 n) FUEL x3 (0 : Int32) w)) else none
set_option maxRecDepth 100000 in
set_option maxHeartbeats 4000000 in
theorem wk_X6_marks_b33 (Z : CSp) (x2 : Int32)  : ∀ (n : Nat) (x3 : Int32) (x4 : Int32) (w : Wd), Wm (EM Z) MX6_marks oIw w 33 [(0, Value.ref (aC Z 0)), (2, Value.int x2), (3, Value.int x3), (4, Value.int x4)] [] (f_X6_marks_b33 x2 n x3 x4 w) := by
  intro n
  induction n with
  | zero =>
    intro x3 x4 w
    exact r_none
  | succ n ih =>
    intro x3 x4 w
    rw [f_X6_marks_b33]
    refine r_iload dX6_marks_33 3 rfl ?_
    refine r_aload_n dX6_marks_35 0 rfl ?_
    refine r_get FX6 0 (Nat.le_of_ble_eq_true rfl) kf_X6_7 0 (qM_0 Z w) rfl dX6_marks_36 ?_
    refine r_iconst (v := 1) dX6_marks_39 (by decide) ?_
    refine r_iald 1 (qM_1 Z w) rfl dX6_marks_40 ?_
    refine r_icmp_ge (tgt := 94) dX6_marks_41 (by decide) (fun _ => ?_) (fun _ => ?_)
    · refine r_iload_n dX6_marks_94 2 rfl ?_
      exact r_iretw rfl dX6_marks_95
    · refine r_iconst (v := 0) dX6_marks_44 (by decide) ?_
      refine r_istore (lv' := [(0, Value.ref (aC Z 0)), (2, Value.int x2), (3, Value.int x3), (4, Value.int x4), (5, Value.int (0 : Int32))]) dX6_marks_45 (Nat.le_of_ble_eq_true rfl) [1, 2, 3, 4, 0] rfl ?_
      exact wk_X6_marks_b47 Z x2 x4 _ (ih) FUEL x3 (0 : Int32) w
def f_X6_marks_b18 (w : Wd) : Option (Int32 × Wd) :=
  (f_X6_bad w).bind (fun z2 => some (z2.1, z2.2))
set_option maxRecDepth 100000 in
set_option maxHeartbeats 4000000 in
theorem wk_X6_marks_b18 (Z : CSp) (w : Wd)   : Wm (EM Z) MX6_marks oIw w 18 [(0, Value.ref (aC Z 0))] [] (f_X6_marks_b18 w) := by
  unfold f_X6_marks_b18
  refine r_aload_n dX6_marks_18 0 rfl ?_
  refine r_callV_Iw [] cfX6_bad (m_X6_bad Z w) km_X6_54 ⟨rfl, rfl, (Nat.le_of_ble_eq_true rfl), (Nat.le_of_ble_eq_true rfl)⟩ rfl rfl 0 (qM_0 Z w) rfl rfl (Nat.le_of_ble_eq_true rfl) dX6_marks_19 (fun z2 => ?_)
  exact r_iretw rfl dX6_marks_22
def f_X6_marks (x1 : Int32) (x2 : Int32) (w : Wd) : Option (Int32 × Wd) :=
  (f_X6_in x1 (0 : Int32) (1 : Int32)).bind (fun v1 => if v1 = 0 then (f_X6_marks_b18 w) else ((f_X6_in x2 (0 : Int32) (5 : Int32)).bind (fun v2 => if v2 = 0 then (f_X6_marks_b18 w) else ((f_X6_looksAtAll x1 w).bind (fun w3 => f_X6_marks_b33 x2 FUEL (0 : Int32) (0 : Int32) w3)))))
set_option maxRecDepth 100000 in
set_option maxHeartbeats 4000000 in
theorem wk_X6_marks (Z : CSp) (w : Wd) (x1 : Int32) (x2 : Int32)  : Wm (EM Z) MX6_marks oIw w 0 [(0, Value.ref (aC Z 0)), (1, Value.int x1), (2, Value.int x2)] [] (f_X6_marks x1 x2 w) := by
  unfold f_X6_marks
  refine r_iload_n dX6_marks_0 1 rfl ?_
  refine r_iconst (v := 0) dX6_marks_1 (by decide) ?_
  refine r_iconst (v := 1) dX6_marks_2 (by decide) ?_
  refine r_callS_I [Value.int x1, Value.int (0 : Int32), Value.int (1 : Int32)] cfX6_in (m_X6_in Z w x1 (0 : Int32) (1 : Int32)) km_X6_60 ⟨rfl, rfl, (Nat.le_of_ble_eq_true rfl), (Nat.le_of_ble_eq_true rfl)⟩ rfl rfl (Nat.le_of_ble_eq_true rfl) dX6_marks_3 (fun v1 => ?_)
  refine r_if_eq (tgt := 18) dX6_marks_6 (by decide) (fun _ => ?_) (fun _ => ?_)
  · refine r_lv [0] rfl ?_
    exact wk_X6_marks_b18 Z w
  · refine r_iload_n dX6_marks_9 2 rfl ?_
    refine r_iconst (v := 0) dX6_marks_10 (by decide) ?_
    refine r_iconst (v := 5) dX6_marks_11 (by decide) ?_
    refine r_callS_I [Value.int x2, Value.int (0 : Int32), Value.int (5 : Int32)] cfX6_in (m_X6_in Z w x2 (0 : Int32) (5 : Int32)) km_X6_60 ⟨rfl, rfl, (Nat.le_of_ble_eq_true rfl), (Nat.le_of_ble_eq_true rfl)⟩ rfl rfl (Nat.le_of_ble_eq_true rfl) dX6_marks_12 (fun v2 => ?_)
    refine r_if_ne (tgt := 23) dX6_marks_15 (by decide) (fun _ => ?_) (fun _ => ?_)
    · refine r_aload_n dX6_marks_23 0 rfl ?_
      refine r_iload_n dX6_marks_24 1 rfl ?_
      refine r_callV_Vw [Value.int x1] cfX6_looksAtAll (m_X6_looksAtAll Z w x1) km_X6_214 ⟨rfl, rfl, (Nat.le_of_ble_eq_true rfl), (Nat.le_of_ble_eq_true rfl)⟩ rfl rfl 0 (qM_0 Z w) rfl rfl (Nat.le_of_ble_eq_true rfl) dX6_marks_25 (fun w3 => ?_)
      refine r_iconst (v := 0) dX6_marks_28 (by decide) ?_
      refine r_istore_n (lv' := [(0, Value.ref (aC Z 0)), (1, Value.int x1), (2, Value.int x2), (3, Value.int (0 : Int32))]) dX6_marks_29 (Nat.le_of_ble_eq_true rfl) [1, 2, 3, 0] rfl ?_
      refine r_iconst (v := 0) dX6_marks_30 (by decide) ?_
      refine r_istore (lv' := [(0, Value.ref (aC Z 0)), (1, Value.int x1), (2, Value.int x2), (3, Value.int (0 : Int32)), (4, Value.int (0 : Int32))]) dX6_marks_31 (Nat.le_of_ble_eq_true rfl) [1, 2, 3, 4, 0] rfl ?_
      refine r_lv [0, 2, 3, 4] rfl ?_
      exact wk_X6_marks_b33 Z x2 FUEL (0 : Int32) (0 : Int32) w3
    · refine r_lv [0] rfl ?_
      exact wk_X6_marks_b18 Z w
theorem m_X6_marks (Z : CSp) (w : Wd) (x1 : Int32) (x2 : Int32) : MetM (EM Z) yX6_marks cX6_marks 6 (some .int) { frames := 6, cells := 0, slots := 0, locals := 134 } oIw [Value.ref (aC Z 0), Value.int x1, Value.int x2] w (f_X6_marks x1 x2 w) := MetM_of (plainFor_of_name (by decide)) (Nat.le_of_ble_eq_true rfl) (wk_X6_marks Z w x1 x2)
abbrev MX6_mean : Mt := (cX6_mean, RX6, 2, some .long, { frames := 7, cells := 0, slots := 0, locals := 160 })
def f_X6_mean_b22 (s0 : Int64) (w : Wd) : Option (Int64 × Wd) :=
  some (s0, w)
set_option maxRecDepth 100000 in
set_option maxHeartbeats 4000000 in
theorem wk_X6_mean_b22 (Z : CSp) (w : Wd) (s0 : Int64)  : Wm (EM Z) MX6_mean oLw w 22 [] [Value.long s0] (f_X6_mean_b22 s0 w) := by
  unfold f_X6_mean_b22
  exact r_lretw rfl dX6_mean_22
def f_X6_mean (x1 : Int32) (w : Wd) : Option (Int64 × Wd) :=
  (f_X6_in x1 (0 : Int32) (1 : Int32)).bind (fun v1 => if v1 = 0 then ((f_X6_bad w).bind (fun z2 => f_X6_mean_b22 ((z2.1).toInt64) z2.2)) else ((f_X6_meanOf x1 w).bind (fun z3 => f_X6_mean_b22 z3.1 z3.2)))
set_option maxRecDepth 100000 in
set_option maxHeartbeats 4000000 in
theorem wk_X6_mean (Z : CSp) (w : Wd) (x1 : Int32)  : Wm (EM Z) MX6_mean oLw w 0 [(0, Value.ref (aC Z 0)), (1, Value.int x1)] [] (f_X6_mean x1 w) := by
  unfold f_X6_mean
  refine r_iload_n dX6_mean_0 1 rfl ?_
  refine r_iconst (v := 0) dX6_mean_1 (by decide) ?_
  refine r_iconst (v := 1) dX6_mean_2 (by decide) ?_
  refine r_callS_I [Value.int x1, Value.int (0 : Int32), Value.int (1 : Int32)] cfX6_in (m_X6_in Z w x1 (0 : Int32) (1 : Int32)) km_X6_60 ⟨rfl, rfl, (Nat.le_of_ble_eq_true rfl), (Nat.le_of_ble_eq_true rfl)⟩ rfl rfl (Nat.le_of_ble_eq_true rfl) dX6_mean_3 (fun v1 => ?_)
  refine r_if_eq (tgt := 17) dX6_mean_6 (by decide) (fun _ => ?_) (fun _ => ?_)
  · refine r_aload_n dX6_mean_17 0 rfl ?_
    refine r_callV_Iw [] cfX6_bad (m_X6_bad Z w) km_X6_54 ⟨rfl, rfl, (Nat.le_of_ble_eq_true rfl), (Nat.le_of_ble_eq_true rfl)⟩ rfl rfl 0 (qM_0 Z w) rfl rfl (Nat.le_of_ble_eq_true rfl) dX6_mean_18 (fun z2 => ?_)
    refine r_i2l dX6_mean_21 ?_
    refine r_lv [] rfl ?_
    exact wk_X6_mean_b22 Z z2.2 ((z2.1).toInt64)
  · refine r_aload_n dX6_mean_9 0 rfl ?_
    refine r_iload_n dX6_mean_10 1 rfl ?_
    refine r_callV_Lw [Value.int x1] cfX6_meanOf (m_X6_meanOf Z w x1) km_X6_223 ⟨rfl, rfl, (Nat.le_of_ble_eq_true rfl), (Nat.le_of_ble_eq_true rfl)⟩ rfl rfl 0 (qM_0 Z w) rfl rfl (Nat.le_of_ble_eq_true rfl) dX6_mean_11 (fun z3 => ?_)
    refine r_goto (tgt := 22) dX6_mean_14 (by decide) ?_
    refine r_lv [] rfl ?_
    exact wk_X6_mean_b22 Z z3.2 z3.1
theorem m_X6_mean (Z : CSp) (w : Wd) (x1 : Int32) : MetM (EM Z) yX6_mean cX6_mean 2 (some .long) { frames := 7, cells := 0, slots := 0, locals := 160 } oLw [Value.ref (aC Z 0), Value.int x1] w (f_X6_mean x1 w) := MetM_of (plainFor_of_name (by decide)) (Nat.le_of_ble_eq_true rfl) (wk_X6_mean Z w x1)
abbrev MX6_motionOf : Mt := (cX6_motionOf, RX6, 4, some .int, { frames := 5, cells := 0, slots := 0, locals := 111 })
def f_X6_motionOf_b54 (s0 : Int32) (w : Wd) : Option (Int32 × Wd) :=
  some (s0, w)
set_option maxRecDepth 100000 in
set_option maxHeartbeats 4000000 in
theorem wk_X6_motionOf_b54 (Z : CSp) (w : Wd) (s0 : Int32)  : Wm (EM Z) MX6_motionOf oIw w 54 [] [Value.int s0] (f_X6_motionOf_b54 s0 w) := by
  unfold f_X6_motionOf_b54
  exact r_iretw rfl dX6_motionOf_54
def f_X6_motionOf_b42 (w : Wd) : Option (Int32 × Wd) :=
  f_X6_motionOf_b54 (-10001 : Int32) w
set_option maxRecDepth 100000 in
set_option maxHeartbeats 4000000 in
theorem wk_X6_motionOf_b42 (Z : CSp) (w : Wd)   : Wm (EM Z) MX6_motionOf oIw w 42 [] [] (f_X6_motionOf_b42 w) := by
  unfold f_X6_motionOf_b42
  refine r_sipush (v := -10001) dX6_motionOf_42 (by decide) ?_
  refine r_goto (tgt := 54) dX6_motionOf_45 (by decide) ?_
  exact wk_X6_motionOf_b54 Z w (-10001 : Int32)
def f_X6_motionOf (x1 : Int32) (x2 : Int32) (w : Wd) : Option (Int32 × Wd) :=
  (f_X6_cellPlace (0 : Int32) x1 x2).bind (fun v1 => (f_X6_looksAt v1 w).bind (fun w2 => jlet (w2.1 0 8) (fun y3 => (f_X6_cellPlace (1 : Int32) x1 x2).bind (fun v4 => (f_X6_looksAt v4 w2).bind (fun w5 => if y3 = (-10001 : Int32) then (f_X6_motionOf_b42 w5) else (if (w5.1 0 8) = (-10001 : Int32) then (f_X6_motionOf_b42 w5) else (f_X6_motionOf_b54 ((w5.1 0 8) - y3) w5)))))))
set_option maxRecDepth 100000 in
set_option maxHeartbeats 4000000 in
theorem wk_X6_motionOf (Z : CSp) (w : Wd) (x1 : Int32) (x2 : Int32)  : Wm (EM Z) MX6_motionOf oIw w 0 [(0, Value.ref (aC Z 0)), (1, Value.int x1), (2, Value.int x2)] [] (f_X6_motionOf x1 x2 w) := by
  unfold f_X6_motionOf
  refine r_aload_n dX6_motionOf_0 0 rfl ?_
  refine r_iconst (v := 0) dX6_motionOf_1 (by decide) ?_
  refine r_iload_n dX6_motionOf_2 1 rfl ?_
  refine r_iload_n dX6_motionOf_3 2 rfl ?_
  refine r_callS_I [Value.int (0 : Int32), Value.int x1, Value.int x2] cfX6_cellPlace (m_X6_cellPlace Z w (0 : Int32) x1 x2) km_X6_72 ⟨rfl, rfl, (Nat.le_of_ble_eq_true rfl), (Nat.le_of_ble_eq_true rfl)⟩ rfl rfl (Nat.le_of_ble_eq_true rfl) dX6_motionOf_4 (fun v1 => ?_)
  refine r_callV_Vw [Value.int v1] cfX6_looksAt (m_X6_looksAt Z w v1) km_X6_187 ⟨rfl, rfl, (Nat.le_of_ble_eq_true rfl), (Nat.le_of_ble_eq_true rfl)⟩ rfl rfl 0 (qM_0 Z w) rfl rfl (Nat.le_of_ble_eq_true rfl) dX6_motionOf_7 (fun w2 => ?_)
  refine r_aload_n dX6_motionOf_10 0 rfl ?_
  refine r_get FX6 8 (Nat.le_of_ble_eq_true rfl) kf_X6_167 0 (qM_0 Z w2) rfl dX6_motionOf_11 ?_
  refine r_leti (fun y3 => ?_)
  refine r_istore_n (lv' := [(0, Value.ref (aC Z 0)), (1, Value.int x1), (2, Value.int x2), (3, Value.int y3)]) dX6_motionOf_14 (Nat.le_of_ble_eq_true rfl) [1, 2, 3, 0] rfl ?_
  refine r_aload_n dX6_motionOf_15 0 rfl ?_
  refine r_iconst (v := 1) dX6_motionOf_16 (by decide) ?_
  refine r_iload_n dX6_motionOf_17 1 rfl ?_
  refine r_iload_n dX6_motionOf_18 2 rfl ?_
  refine r_callS_I [Value.int (1 : Int32), Value.int x1, Value.int x2] cfX6_cellPlace (m_X6_cellPlace Z w2 (1 : Int32) x1 x2) km_X6_72 ⟨rfl, rfl, (Nat.le_of_ble_eq_true rfl), (Nat.le_of_ble_eq_true rfl)⟩ rfl rfl (Nat.le_of_ble_eq_true rfl) dX6_motionOf_19 (fun v4 => ?_)
  refine r_callV_Vw [Value.int v4] cfX6_looksAt (m_X6_looksAt Z w2 v4) km_X6_187 ⟨rfl, rfl, (Nat.le_of_ble_eq_true rfl), (Nat.le_of_ble_eq_true rfl)⟩ rfl rfl 0 (qM_0 Z w2) rfl rfl (Nat.le_of_ble_eq_true rfl) dX6_motionOf_22 (fun w5 => ?_)
  refine r_iload_n dX6_motionOf_25 3 rfl ?_
  refine r_sipush (v := -10001) dX6_motionOf_26 (by decide) ?_
  refine r_icmp_eq (tgt := 42) dX6_motionOf_29 (by decide) (fun _ => ?_) (fun _ => ?_)
  · refine r_lv [] rfl ?_
    exact wk_X6_motionOf_b42 Z w5
  · refine r_aload_n dX6_motionOf_32 0 rfl ?_
    refine r_get FX6 8 (Nat.le_of_ble_eq_true rfl) kf_X6_167 0 (qM_0 Z w5) rfl dX6_motionOf_33 ?_
    refine r_sipush (v := -10001) dX6_motionOf_36 (by decide) ?_
    refine r_icmp_ne (tgt := 48) dX6_motionOf_39 (by decide) (fun _ => ?_) (fun _ => ?_)
    · refine r_aload_n dX6_motionOf_48 0 rfl ?_
      refine r_get FX6 8 (Nat.le_of_ble_eq_true rfl) kf_X6_167 0 (qM_0 Z w5) rfl dX6_motionOf_49 ?_
      refine r_iload_n dX6_motionOf_52 3 rfl ?_
      refine r_isub dX6_motionOf_53 ?_
      refine r_lv [] rfl ?_
      exact wk_X6_motionOf_b54 Z w5 ((w5.1 0 8) - y3)
    · refine r_lv [] rfl ?_
      exact wk_X6_motionOf_b42 Z w5
theorem m_X6_motionOf (Z : CSp) (w : Wd) (x1 : Int32) (x2 : Int32) : MetM (EM Z) yX6_motionOf cX6_motionOf 4 (some .int) { frames := 5, cells := 0, slots := 0, locals := 111 } oIw [Value.ref (aC Z 0), Value.int x1, Value.int x2] w (f_X6_motionOf x1 x2 w) := MetM_of (plainFor_of_name (by decide)) (Nat.le_of_ble_eq_true rfl) (wk_X6_motionOf Z w x1 x2)
abbrev MX6_motion : Mt := (cX6_motion, RX6, 4, some .int, { frames := 6, cells := 0, slots := 0, locals := 134 })
def f_X6_motion_b37 (s0 : Int32) (w : Wd) : Option (Int32 × Wd) :=
  some (s0, w)
set_option maxRecDepth 100000 in
set_option maxHeartbeats 4000000 in
theorem wk_X6_motion_b37 (Z : CSp) (w : Wd) (s0 : Int32)  : Wm (EM Z) MX6_motion oIw w 37 [] [Value.int s0] (f_X6_motion_b37 s0 w) := by
  unfold f_X6_motion_b37
  exact r_iretw rfl dX6_motion_37
def f_X6_motion (x1 : Int32) (x2 : Int32) (w : Wd) : Option (Int32 × Wd) :=
  (f_X6_isCell (0 : Int32) x1 x2 w).bind (fun v1 => if v1 = 0 then ((f_X6_bad w).bind (fun z4 => some (z4.1, z4.2))) else ((f_X6_motionOf x1 x2 w).bind (fun z2 => if z2.1 = (-10001 : Int32) then ((f_X6_no z2.2).bind (fun z3 => f_X6_motion_b37 z3.1 z3.2)) else (f_X6_motion_b37 z2.1 z2.2))))
set_option maxRecDepth 100000 in
set_option maxHeartbeats 4000000 in
theorem wk_X6_motion (Z : CSp) (w : Wd) (x1 : Int32) (x2 : Int32)  : Wm (EM Z) MX6_motion oIw w 0 [(0, Value.ref (aC Z 0)), (1, Value.int x1), (2, Value.int x2)] [] (f_X6_motion x1 x2 w) := by
  unfold f_X6_motion
  refine r_aload_n dX6_motion_0 0 rfl ?_
  refine r_iconst (v := 0) dX6_motion_1 (by decide) ?_
  refine r_iload_n dX6_motion_2 1 rfl ?_
  refine r_iload_n dX6_motion_3 2 rfl ?_
  refine r_callV_I [Value.int (0 : Int32), Value.int x1, Value.int x2] cfX6_isCell (m_X6_isCell Z w (0 : Int32) x1 x2) km_X6_69 ⟨rfl, rfl, (Nat.le_of_ble_eq_true rfl), (Nat.le_of_ble_eq_true rfl)⟩ rfl rfl 0 (qM_0 Z w) rfl rfl (Nat.le_of_ble_eq_true rfl) dX6_motion_4 (fun v1 => ?_)
  refine r_if_ne (tgt := 15) dX6_motion_7 (by decide) (fun _ => ?_) (fun _ => ?_)
  · refine r_aload_n dX6_motion_15 0 rfl ?_
    refine r_iload_n dX6_motion_16 1 rfl ?_
    refine r_iload_n dX6_motion_17 2 rfl ?_
    refine r_callV_Iw [Value.int x1, Value.int x2] cfX6_motionOf (m_X6_motionOf Z w x1 x2) km_X6_211 ⟨rfl, rfl, (Nat.le_of_ble_eq_true rfl), (Nat.le_of_ble_eq_true rfl)⟩ rfl rfl 0 (qM_0 Z w) rfl rfl (Nat.le_of_ble_eq_true rfl) dX6_motion_18 (fun z2 => ?_)
    refine r_istore_n (lv' := [(0, Value.ref (aC Z 0)), (1, Value.int x1), (2, Value.int x2), (3, Value.int z2.1)]) dX6_motion_21 (Nat.le_of_ble_eq_true rfl) [1, 2, 3, 0] rfl ?_
    refine r_iload_n dX6_motion_22 3 rfl ?_
    refine r_sipush (v := -10001) dX6_motion_23 (by decide) ?_
    refine r_icmp_ne (tgt := 36) dX6_motion_26 (by decide) (fun _ => ?_) (fun _ => ?_)
    · refine r_iload_n dX6_motion_36 3 rfl ?_
      refine r_lv [] rfl ?_
      exact wk_X6_motion_b37 Z z2.2 z2.1
    · refine r_aload_n dX6_motion_29 0 rfl ?_
      refine r_callV_Iw [] cfX6_no (m_X6_no Z z2.2) km_X6_50 ⟨rfl, rfl, (Nat.le_of_ble_eq_true rfl), (Nat.le_of_ble_eq_true rfl)⟩ rfl rfl 0 (qM_0 Z z2.2) rfl rfl (Nat.le_of_ble_eq_true rfl) dX6_motion_30 (fun z3 => ?_)
      refine r_goto (tgt := 37) dX6_motion_33 (by decide) ?_
      refine r_lv [] rfl ?_
      exact wk_X6_motion_b37 Z z3.2 z3.1
  · refine r_aload_n dX6_motion_10 0 rfl ?_
    refine r_callV_Iw [] cfX6_bad (m_X6_bad Z w) km_X6_54 ⟨rfl, rfl, (Nat.le_of_ble_eq_true rfl), (Nat.le_of_ble_eq_true rfl)⟩ rfl rfl 0 (qM_0 Z w) rfl rfl (Nat.le_of_ble_eq_true rfl) dX6_motion_11 (fun z4 => ?_)
    exact r_iretw rfl dX6_motion_14
theorem m_X6_motion (Z : CSp) (w : Wd) (x1 : Int32) (x2 : Int32) : MetM (EM Z) yX6_motion cX6_motion 4 (some .int) { frames := 6, cells := 0, slots := 0, locals := 134 } oIw [Value.ref (aC Z 0), Value.int x1, Value.int x2] w (f_X6_motion x1 x2 w) := MetM_of (plainFor_of_name (by decide)) (Nat.le_of_ble_eq_true rfl) (wk_X6_motion Z w x1 x2)
abbrev MX6_moved : Mt := (cX6_moved, RX6, 5, some .int, { frames := 6, cells := 0, slots := 0, locals := 134 })
def f_X6_moved_b63 (x2 : Int32) (x3 : Int32) (s0 : Int32) (s1 : Int32) (k16 : Int32 → Int32 → Wd → Option (Int32 × Wd)) (w : Wd) : Option (Int32 × Wd) :=
  jlet (s1 + s0) (fun y2 => k16 y2 (x3 + 1) w)
set_option maxRecDepth 100000 in
set_option maxHeartbeats 4000000 in
theorem wk_X6_moved_b63 (Z : CSp) (w : Wd) (x2 : Int32) (x3 : Int32) (s0 : Int32) (s1 : Int32) (k16 : Int32 → Int32 → Wd → Option (Int32 × Wd)) (hk16 : ∀ (x1 : Int32) (x3 : Int32) (w : Wd), Wm (EM Z) MX6_moved oIw w 16 [(0, Value.ref (aC Z 0)), (1, Value.int x1), (2, Value.int x2), (3, Value.int x3)] [] (k16 x1 x3 w)) : Wm (EM Z) MX6_moved oIw w 63 [(0, Value.ref (aC Z 0)), (2, Value.int x2), (3, Value.int x3)] [Value.int s0, Value.int s1] (f_X6_moved_b63 x2 x3 s0 s1 k16 w) := by
  unfold f_X6_moved_b63
  refine r_iadd dX6_moved_63 ?_
  refine r_leti (fun y2 => ?_)
  refine r_istore_n (lv' := [(0, Value.ref (aC Z 0)), (1, Value.int y2), (2, Value.int x2), (3, Value.int x3)]) dX6_moved_64 (Nat.le_of_ble_eq_true rfl) [1, 0, 2, 3] rfl ?_
  refine r_iinc (lv' := [(0, Value.ref (aC Z 0)), (1, Value.int y2), (2, Value.int x2), (3, Value.int (x3 + 1))]) dX6_moved_65 3 rfl (by rfl) (Nat.le_of_ble_eq_true rfl) [1, 2, 3, 0] rfl ?_
  refine r_goto (tgt := 16) dX6_moved_68 (by decide) ?_
  exact hk16 y2 (x3 + 1) w
def f_X6_moved_b62 (x2 : Int32) (x3 : Int32) (s0 : Int32) (k16 : Int32 → Int32 → Wd → Option (Int32 × Wd)) (w : Wd) : Option (Int32 × Wd) :=
  f_X6_moved_b63 x2 x3 (0 : Int32) s0 k16 w
set_option maxRecDepth 100000 in
set_option maxHeartbeats 4000000 in
theorem wk_X6_moved_b62 (Z : CSp) (w : Wd) (x2 : Int32) (x3 : Int32) (s0 : Int32) (k16 : Int32 → Int32 → Wd → Option (Int32 × Wd)) (hk16 : ∀ (x1 : Int32) (x3 : Int32) (w : Wd), Wm (EM Z) MX6_moved oIw w 16 [(0, Value.ref (aC Z 0)), (1, Value.int x1), (2, Value.int x2), (3, Value.int x3)] [] (k16 x1 x3 w)) : Wm (EM Z) MX6_moved oIw w 62 [(0, Value.ref (aC Z 0)), (2, Value.int x2), (3, Value.int x3)] [Value.int s0] (f_X6_moved_b62 x2 x3 s0 k16 w) := by
  unfold f_X6_moved_b62
  refine r_iconst (v := 0) dX6_moved_62 (by decide) ?_
  exact wk_X6_moved_b63 Z w x2 x3 (0 : Int32) s0 k16 hk16
def f_X6_moved_b16 (x2 : Int32) (k4 : Int32 → Int32 → Wd → Option (Int32 × Wd)) : Nat → Int32 → Int32 → Wd → Option (Int32 × Wd)
  | 0, _, _, _ => none
  | n + 1, x1, x3, w =>
  if inb (0 : Int32) 395 = true then (if (w.1 1 ((0 : Int32)).toNatClampNeg) ≤ x3 then (k4 x1 (x2 + 1) w) else ((f_X6_motionOf x3 x2 w).bind (fun z3 => if z3.1 = (-10001 : Int32) then (f_X6_moved_b62 x2 x3 x1 (f_X6_moved_b16 x2 k4 n) z3.2) else ((f_X6_size z3.1).bind (fun v4 => if inb (10 : Int32) 395 = true then (if v4 ≤ (z3.2.1 1 ((10 : Int32)).toNatClampNeg) then (f_X6_moved_b62 x2 x3 x1 (f_X6_moved_b16 x2 k4 n) z3.2) else (f_X6_moved_b63 x2 x3 (1 : Int32) x1 (f_X6_moved_b16 x2 k4 n) z3.2)) else none))))) else none
set_option maxRecDepth 100000 in
set_option maxHeartbeats 4000000 in
theorem wk_X6_moved_b16 (Z : CSp) (x2 : Int32) (k4 : Int32 → Int32 → Wd → Option (Int32 × Wd)) (hk4 : ∀ (x1 : Int32) (x2 : Int32) (w : Wd), Wm (EM Z) MX6_moved oIw w 4 [(0, Value.ref (aC Z 0)), (1, Value.int x1), (2, Value.int x2)] [] (k4 x1 x2 w)) : ∀ (n : Nat) (x1 : Int32) (x3 : Int32) (w : Wd), Wm (EM Z) MX6_moved oIw w 16 [(0, Value.ref (aC Z 0)), (1, Value.int x1), (2, Value.int x2), (3, Value.int x3)] [] (f_X6_moved_b16 x2 k4 n x1 x3 w) := by
  intro n
  induction n with
  | zero =>
    intro x1 x3 w
    exact r_none
  | succ n ih =>
    intro x1 x3 w
    rw [f_X6_moved_b16]
    refine r_iload_n dX6_moved_16 3 rfl ?_
    refine r_aload_n dX6_moved_17 0 rfl ?_
    refine r_get FX6 0 (Nat.le_of_ble_eq_true rfl) kf_X6_7 0 (qM_0 Z w) rfl dX6_moved_18 ?_
    refine r_iconst (v := 0) dX6_moved_21 (by decide) ?_
    refine r_iald 1 (qM_1 Z w) rfl dX6_moved_22 ?_
    refine r_icmp_ge (tgt := 71) dX6_moved_23 (by decide) (fun _ => ?_) (fun _ => ?_)
    · refine r_iinc (lv' := [(0, Value.ref (aC Z 0)), (1, Value.int x1), (2, Value.int (x2 + 1)), (3, Value.int x3)]) dX6_moved_71 2 rfl (by rfl) (Nat.le_of_ble_eq_true rfl) [1, 2, 0, 3] rfl ?_
      refine r_goto (tgt := 4) dX6_moved_74 (by decide) ?_
      refine r_lv [0, 1, 2] rfl ?_
      exact hk4 x1 (x2 + 1) w
    · refine r_aload_n dX6_moved_26 0 rfl ?_
      refine r_iload_n dX6_moved_27 3 rfl ?_
      refine r_iload_n dX6_moved_28 2 rfl ?_
      refine r_callV_Iw [Value.int x3, Value.int x2] cfX6_motionOf (m_X6_motionOf Z w x3 x2) km_X6_211 ⟨rfl, rfl, (Nat.le_of_ble_eq_true rfl), (Nat.le_of_ble_eq_true rfl)⟩ rfl rfl 0 (qM_0 Z w) rfl rfl (Nat.le_of_ble_eq_true rfl) dX6_moved_29 (fun z3 => ?_)
      refine r_istore (lv' := [(0, Value.ref (aC Z 0)), (1, Value.int x1), (2, Value.int x2), (3, Value.int x3), (4, Value.int z3.1)]) dX6_moved_32 (Nat.le_of_ble_eq_true rfl) [1, 2, 3, 4, 0] rfl ?_
      refine r_iload_n dX6_moved_34 1 rfl ?_
      refine r_iload dX6_moved_35 4 rfl ?_
      refine r_sipush (v := -10001) dX6_moved_37 (by decide) ?_
      refine r_icmp_eq (tgt := 62) dX6_moved_40 (by decide) (fun _ => ?_) (fun _ => ?_)
      · refine r_lv [0, 2, 3] rfl ?_
        exact wk_X6_moved_b62 Z z3.2 x2 x3 x1 _ (ih)
      · refine r_iload dX6_moved_43 4 rfl ?_
        refine r_callS_I [Value.int z3.1] cfX6_size (m_X6_size Z z3.2 z3.1) km_X6_121 ⟨rfl, rfl, (Nat.le_of_ble_eq_true rfl), (Nat.le_of_ble_eq_true rfl)⟩ rfl rfl (Nat.le_of_ble_eq_true rfl) dX6_moved_45 (fun v4 => ?_)
        refine r_aload_n dX6_moved_48 0 rfl ?_
        refine r_get FX6 0 (Nat.le_of_ble_eq_true rfl) kf_X6_7 0 (qM_0 Z z3.2) rfl dX6_moved_49 ?_
        refine r_bipush (v := 10) dX6_moved_52 (by decide) ?_
        refine r_iald 1 (qM_1 Z z3.2) rfl dX6_moved_54 ?_
        refine r_icmp_le (tgt := 62) dX6_moved_55 (by decide) (fun _ => ?_) (fun _ => ?_)
        · refine r_lv [0, 2, 3] rfl ?_
          exact wk_X6_moved_b62 Z z3.2 x2 x3 x1 _ (ih)
        · refine r_iconst (v := 1) dX6_moved_58 (by decide) ?_
          refine r_goto (tgt := 63) dX6_moved_59 (by decide) ?_
          refine r_lv [0, 2, 3] rfl ?_
          exact wk_X6_moved_b63 Z z3.2 x2 x3 (1 : Int32) x1 _ (ih)
def f_X6_moved_b4  : Nat → Int32 → Int32 → Wd → Option (Int32 × Wd)
  | 0, _, _, _ => none
  | n + 1, x1, x2, w =>
  if inb (1 : Int32) 395 = true then (if (w.1 1 ((1 : Int32)).toNatClampNeg) ≤ x2 then (some (x1, w)) else (f_X6_moved_b16 x2 (f_X6_moved_b4 n) FUEL x1 (0 : Int32) w)) else none
set_option maxRecDepth 100000 in
set_option maxHeartbeats 4000000 in
theorem wk_X6_moved_b4 (Z : CSp)   : ∀ (n : Nat) (x1 : Int32) (x2 : Int32) (w : Wd), Wm (EM Z) MX6_moved oIw w 4 [(0, Value.ref (aC Z 0)), (1, Value.int x1), (2, Value.int x2)] [] (f_X6_moved_b4  n x1 x2 w) := by
  intro n
  induction n with
  | zero =>
    intro x1 x2 w
    exact r_none
  | succ n ih =>
    intro x1 x2 w
    rw [f_X6_moved_b4]
    refine r_iload_n dX6_moved_4 2 rfl ?_
    refine r_aload_n dX6_moved_5 0 rfl ?_
    refine r_get FX6 0 (Nat.le_of_ble_eq_true rfl) kf_X6_7 0 (qM_0 Z w) rfl dX6_moved_6 ?_
    refine r_iconst (v := 1) dX6_moved_9 (by decide) ?_
    refine r_iald 1 (qM_1 Z w) rfl dX6_moved_10 ?_
    refine r_icmp_ge (tgt := 77) dX6_moved_11 (by decide) (fun _ => ?_) (fun _ => ?_)
    · refine r_iload_n dX6_moved_77 1 rfl ?_
      exact r_iretw rfl dX6_moved_78
    · refine r_iconst (v := 0) dX6_moved_14 (by decide) ?_
      refine r_istore_n (lv' := [(0, Value.ref (aC Z 0)), (1, Value.int x1), (2, Value.int x2), (3, Value.int (0 : Int32))]) dX6_moved_15 (Nat.le_of_ble_eq_true rfl) [1, 2, 3, 0] rfl ?_
      exact wk_X6_moved_b16 Z x2 _ (ih) FUEL x1 (0 : Int32) w
def f_X6_moved (w : Wd) : Option (Int32 × Wd) :=
  f_X6_moved_b4 FUEL (0 : Int32) (0 : Int32) w
set_option maxRecDepth 100000 in
set_option maxHeartbeats 4000000 in
theorem wk_X6_moved (Z : CSp) (w : Wd)   : Wm (EM Z) MX6_moved oIw w 0 [(0, Value.ref (aC Z 0))] [] (f_X6_moved w) := by
  unfold f_X6_moved
  refine r_iconst (v := 0) dX6_moved_0 (by decide) ?_
  refine r_istore_n (lv' := [(0, Value.ref (aC Z 0)), (1, Value.int (0 : Int32))]) dX6_moved_1 (Nat.le_of_ble_eq_true rfl) [1, 0] rfl ?_
  refine r_iconst (v := 0) dX6_moved_2 (by decide) ?_
  refine r_istore_n (lv' := [(0, Value.ref (aC Z 0)), (1, Value.int (0 : Int32)), (2, Value.int (0 : Int32))]) dX6_moved_3 (Nat.le_of_ble_eq_true rfl) [1, 2, 0] rfl ?_
  exact wk_X6_moved_b4 Z FUEL (0 : Int32) (0 : Int32) w
theorem m_X6_moved (Z : CSp) (w : Wd)  : MetM (EM Z) yX6_moved cX6_moved 5 (some .int) { frames := 6, cells := 0, slots := 0, locals := 134 } oIw [Value.ref (aC Z 0)] w (f_X6_moved w) := MetM_of (plainFor_of_name (by decide)) (Nat.le_of_ble_eq_true rfl) (wk_X6_moved Z w )
abbrev MX6_of : Mt := (cX6_of, RX6, 7, some .int, { frames := 4, cells := 0, slots := 0, locals := 88 })
def f_X6_of_b119 (s0 : Int32) (w : Wd) : Option (Int32 × Wd) :=
  some (s0, w)
set_option maxRecDepth 100000 in
set_option maxHeartbeats 4000000 in
theorem wk_X6_of_b119 (Z : CSp) (w : Wd) (s0 : Int32)  : Wm (EM Z) MX6_of oIw w 119 [] [Value.int s0] (f_X6_of_b119 s0 w) := by
  unfold f_X6_of_b119
  exact r_iretw rfl dX6_of_119
def f_X6_of_b22 (w : Wd) : Option (Int32 × Wd) :=
  (f_X6_bad w).bind (fun z2 => some (z2.1, z2.2))
set_option maxRecDepth 100000 in
set_option maxHeartbeats 4000000 in
theorem wk_X6_of_b22 (Z : CSp) (w : Wd)   : Wm (EM Z) MX6_of oIw w 22 [(0, Value.ref (aC Z 0))] [] (f_X6_of_b22 w) := by
  unfold f_X6_of_b22
  refine r_aload_n dX6_of_22 0 rfl ?_
  refine r_callV_Iw [] cfX6_bad (m_X6_bad Z w) km_X6_54 ⟨rfl, rfl, (Nat.le_of_ble_eq_true rfl), (Nat.le_of_ble_eq_true rfl)⟩ rfl rfl 0 (qM_0 Z w) rfl rfl (Nat.le_of_ble_eq_true rfl) dX6_of_23 (fun z2 => ?_)
  exact r_iretw rfl dX6_of_26
def f_X6_of (x1 : Int32) (x2 : Int32) (x3 : Int32) (x4 : Int32) (x5 : Int32) (w : Wd) : Option (Int32 × Wd) :=
  (f_X6_isRate x1 x2 x3 x4 w).bind (fun v1 => if v1 = 0 then (f_X6_of_b22 w) else ((f_X6_in x5 (0 : Int32) (3 : Int32)).bind (fun v2 => if v2 = 0 then (f_X6_of_b22 w) else ((f_X6_cellPlace x1 x2 x3).bind (fun v3 => jlet (v3 + ((4 : Int32) * x4)) (fun y4 => if x5 = 0 then ((f_X6_acrossOf y4 w).bind (fun v5 => some (v5, w))) else (if x5 = 1 then ((f_X6_downOf y4 w).bind (fun v6 => some (v6, w))) else (if x5 = 2 then ((f_X6_sumOf y4 w).bind (fun v7 => some (v7, w))) else ((f_X6_sumOf y4 w).bind (fun v8 => if v8 = 0 then (f_X6_of_b119 (-10001 : Int32) w) else (if inb ((2 : Int32) + x4) 395 = true then ((f_X6_residueOf y4 (w.1 1 ((2 : Int32) + x4).toNatClampNeg) w).bind (fun v9 => f_X6_of_b119 v9 w)) else none)))))))))))
set_option maxRecDepth 100000 in
set_option maxHeartbeats 4000000 in
theorem wk_X6_of (Z : CSp) (w : Wd) (x1 : Int32) (x2 : Int32) (x3 : Int32) (x4 : Int32) (x5 : Int32)  : Wm (EM Z) MX6_of oIw w 0 [(0, Value.ref (aC Z 0)), (1, Value.int x1), (2, Value.int x2), (3, Value.int x3), (4, Value.int x4), (5, Value.int x5)] [] (f_X6_of x1 x2 x3 x4 x5 w) := by
  unfold f_X6_of
  refine r_aload_n dX6_of_0 0 rfl ?_
  refine r_iload_n dX6_of_1 1 rfl ?_
  refine r_iload_n dX6_of_2 2 rfl ?_
  refine r_iload_n dX6_of_3 3 rfl ?_
  refine r_iload dX6_of_4 4 rfl ?_
  refine r_callV_I [Value.int x1, Value.int x2, Value.int x3, Value.int x4] cfX6_isRate (m_X6_isRate Z w x1 x2 x3 x4) km_X6_136 ⟨rfl, rfl, (Nat.le_of_ble_eq_true rfl), (Nat.le_of_ble_eq_true rfl)⟩ rfl rfl 0 (qM_0 Z w) rfl rfl (Nat.le_of_ble_eq_true rfl) dX6_of_6 (fun v1 => ?_)
  refine r_if_eq (tgt := 22) dX6_of_9 (by decide) (fun _ => ?_) (fun _ => ?_)
  · refine r_lv [0] rfl ?_
    exact wk_X6_of_b22 Z w
  · refine r_iload dX6_of_12 5 rfl ?_
    refine r_iconst (v := 0) dX6_of_14 (by decide) ?_
    refine r_iconst (v := 3) dX6_of_15 (by decide) ?_
    refine r_callS_I [Value.int x5, Value.int (0 : Int32), Value.int (3 : Int32)] cfX6_in (m_X6_in Z w x5 (0 : Int32) (3 : Int32)) km_X6_60 ⟨rfl, rfl, (Nat.le_of_ble_eq_true rfl), (Nat.le_of_ble_eq_true rfl)⟩ rfl rfl (Nat.le_of_ble_eq_true rfl) dX6_of_16 (fun v2 => ?_)
    refine r_if_ne (tgt := 27) dX6_of_19 (by decide) (fun _ => ?_) (fun _ => ?_)
    · refine r_iload_n dX6_of_27 1 rfl ?_
      refine r_iload_n dX6_of_28 2 rfl ?_
      refine r_iload_n dX6_of_29 3 rfl ?_
      refine r_callS_I [Value.int x1, Value.int x2, Value.int x3] cfX6_cellPlace (m_X6_cellPlace Z w x1 x2 x3) km_X6_72 ⟨rfl, rfl, (Nat.le_of_ble_eq_true rfl), (Nat.le_of_ble_eq_true rfl)⟩ rfl rfl (Nat.le_of_ble_eq_true rfl) dX6_of_30 (fun v3 => ?_)
      refine r_iconst (v := 4) dX6_of_33 (by decide) ?_
      refine r_iload dX6_of_34 4 rfl ?_
      refine r_imul dX6_of_36 ?_
      refine r_iadd dX6_of_37 ?_
      refine r_leti (fun y4 => ?_)
      refine r_istore (lv' := [(0, Value.ref (aC Z 0)), (1, Value.int x1), (2, Value.int x2), (3, Value.int x3), (4, Value.int x4), (5, Value.int x5), (6, Value.int y4)]) dX6_of_38 (Nat.le_of_ble_eq_true rfl) [1, 2, 3, 4, 5, 6, 0] rfl ?_
      refine r_iload dX6_of_40 5 rfl ?_
      refine r_split (fun h0 => ?_) (fun h0 => ?_)
      · refine r_tin (k := 0) (tgt := 68) dX6_of_42 h0 (by decide) ?_
        refine r_aload_n dX6_of_68 0 rfl ?_
        refine r_iload dX6_of_69 6 rfl ?_
        refine r_callV_I [Value.int y4] cfX6_acrossOf (m_X6_acrossOf Z w y4) km_X6_118 ⟨rfl, rfl, (Nat.le_of_ble_eq_true rfl), (Nat.le_of_ble_eq_true rfl)⟩ rfl rfl 0 (qM_0 Z w) rfl rfl (Nat.le_of_ble_eq_true rfl) dX6_of_71 (fun v5 => ?_)
        exact r_iretw rfl dX6_of_74
      refine r_split (fun h1 => ?_) (fun h1 => ?_)
      · refine r_tin (k := 1) (tgt := 75) dX6_of_42 h1 (by decide) ?_
        refine r_aload_n dX6_of_75 0 rfl ?_
        refine r_iload dX6_of_76 6 rfl ?_
        refine r_callV_I [Value.int y4] cfX6_downOf (m_X6_downOf Z w y4) km_X6_124 ⟨rfl, rfl, (Nat.le_of_ble_eq_true rfl), (Nat.le_of_ble_eq_true rfl)⟩ rfl rfl 0 (qM_0 Z w) rfl rfl (Nat.le_of_ble_eq_true rfl) dX6_of_78 (fun v6 => ?_)
        exact r_iretw rfl dX6_of_81
      refine r_split (fun h2 => ?_) (fun h2 => ?_)
      · refine r_tin (k := 2) (tgt := 82) dX6_of_42 h2 (by decide) ?_
        refine r_aload_n dX6_of_82 0 rfl ?_
        refine r_iload dX6_of_83 6 rfl ?_
        refine r_callV_I [Value.int y4] cfX6_sumOf (m_X6_sumOf Z w y4) km_X6_127 ⟨rfl, rfl, (Nat.le_of_ble_eq_true rfl), (Nat.le_of_ble_eq_true rfl)⟩ rfl rfl 0 (qM_0 Z w) rfl rfl (Nat.le_of_ble_eq_true rfl) dX6_of_85 (fun v7 => ?_)
        exact r_iretw rfl dX6_of_88
      refine r_tout (tgt := 89) dX6_of_42 (by have g0 := lv_neT h0 (a := 0) (by decide); have g1 := lv_neT h1 (a := 1) (by decide); have g2 := lv_neT h2 (a := 2) (by decide); omega) (by decide) ?_
      refine r_aload_n dX6_of_89 0 rfl ?_
      refine r_iload dX6_of_90 6 rfl ?_
      refine r_callV_I [Value.int y4] cfX6_sumOf (m_X6_sumOf Z w y4) km_X6_127 ⟨rfl, rfl, (Nat.le_of_ble_eq_true rfl), (Nat.le_of_ble_eq_true rfl)⟩ rfl rfl 0 (qM_0 Z w) rfl rfl (Nat.le_of_ble_eq_true rfl) dX6_of_92 (fun v8 => ?_)
      refine r_if_ne (tgt := 104) dX6_of_95 (by decide) (fun _ => ?_) (fun _ => ?_)
      · refine r_aload_n dX6_of_104 0 rfl ?_
        refine r_iload dX6_of_105 6 rfl ?_
        refine r_aload_n dX6_of_107 0 rfl ?_
        refine r_get FX6 0 (Nat.le_of_ble_eq_true rfl) kf_X6_7 0 (qM_0 Z w) rfl dX6_of_108 ?_
        refine r_iconst (v := 2) dX6_of_111 (by decide) ?_
        refine r_iload dX6_of_112 4 rfl ?_
        refine r_iadd dX6_of_114 ?_
        refine r_iald 1 (qM_1 Z w) rfl dX6_of_115 ?_
        refine r_callV_I [Value.int y4, Value.int (w.1 1 ((2 : Int32) + x4).toNatClampNeg)] cfX6_residueOf (m_X6_residueOf Z w y4 (w.1 1 ((2 : Int32) + x4).toNatClampNeg)) km_X6_140 ⟨rfl, rfl, (Nat.le_of_ble_eq_true rfl), (Nat.le_of_ble_eq_true rfl)⟩ rfl rfl 0 (qM_0 Z w) rfl rfl (Nat.le_of_ble_eq_true rfl) dX6_of_116 (fun v9 => ?_)
        refine r_lv [] rfl ?_
        exact wk_X6_of_b119 Z w v9
      · refine r_sipush (v := -10001) dX6_of_98 (by decide) ?_
        refine r_goto (tgt := 119) dX6_of_101 (by decide) ?_
        refine r_lv [] rfl ?_
        exact wk_X6_of_b119 Z w (-10001 : Int32)
    · refine r_lv [0] rfl ?_
      exact wk_X6_of_b22 Z w
theorem m_X6_of (Z : CSp) (w : Wd) (x1 : Int32) (x2 : Int32) (x3 : Int32) (x4 : Int32) (x5 : Int32) : MetM (EM Z) yX6_of cX6_of 7 (some .int) { frames := 4, cells := 0, slots := 0, locals := 88 } oIw [Value.ref (aC Z 0), Value.int x1, Value.int x2, Value.int x3, Value.int x4, Value.int x5] w (f_X6_of x1 x2 x3 x4 x5 w) := MetM_of (plainFor_of_name (by decide)) (Nat.le_of_ble_eq_true rfl) (wk_X6_of Z w x1 x2 x3 x4 x5)
abbrev MX6_putSample : Mt := (cX6_putSample, RX6, 4, some .int, { frames := 0, cells := 0, slots := 0, locals := 0 })
def f_X6_putSample (x1 : Int32) (x2 : Int32) (w : Wd) : Option (Int32 × Wd) :=
  if inb x1 395 = true then (jlet (w.1 1 (x1).toNatClampNeg) (fun y1 => if inb x1 395 = true then (wput w 1 (x1).toNatClampNeg x2 (fun w2 => some (y1, w2))) else none)) else none
set_option maxRecDepth 100000 in
set_option maxHeartbeats 4000000 in
theorem wk_X6_putSample (Z : CSp) (w : Wd) (x1 : Int32) (x2 : Int32)  : Wm (EM Z) MX6_putSample oIw w 0 [(0, Value.ref (aC Z 0)), (1, Value.int x1), (2, Value.int x2)] [] (f_X6_putSample x1 x2 w) := by
  unfold f_X6_putSample
  refine r_aload_n dX6_putSample_0 0 rfl ?_
  refine r_get FX6 0 (Nat.le_of_ble_eq_true rfl) kf_X6_7 0 (qM_0 Z w) rfl dX6_putSample_1 ?_
  refine r_iload_n dX6_putSample_4 1 rfl ?_
  refine r_iald 1 (qM_1 Z w) rfl dX6_putSample_5 ?_
  refine r_leti (fun y1 => ?_)
  refine r_istore_n (lv' := [(0, Value.ref (aC Z 0)), (1, Value.int x1), (2, Value.int x2), (3, Value.int y1)]) dX6_putSample_6 (Nat.le_of_ble_eq_true rfl) [1, 2, 3, 0] rfl ?_
  refine r_aload_n dX6_putSample_7 0 rfl ?_
  refine r_get FX6 0 (Nat.le_of_ble_eq_true rfl) kf_X6_7 0 (qM_0 Z w) rfl dX6_putSample_8 ?_
  refine r_iload_n dX6_putSample_11 1 rfl ?_
  refine r_iload_n dX6_putSample_12 2 rfl ?_
  refine r_iast (qM_1 Z w) rfl (uM_1 Z w x2) dX6_putSample_13 (fun w2 => ?_)
  refine r_iload_n dX6_putSample_14 3 rfl ?_
  exact r_iretw rfl dX6_putSample_15
theorem m_X6_putSample (Z : CSp) (w : Wd) (x1 : Int32) (x2 : Int32) : MetM (EM Z) yX6_putSample cX6_putSample 4 (some .int) { frames := 0, cells := 0, slots := 0, locals := 0 } oIw [Value.ref (aC Z 0), Value.int x1, Value.int x2] w (f_X6_putSample x1 x2 w) := MetM_of (plainFor_of_name (by decide)) (Nat.le_of_ble_eq_true rfl) (wk_X6_putSample Z w x1 x2)
abbrev MX6_raw : Mt := (cX6_raw, RX6, 6, some .int, { frames := 3, cells := 0, slots := 0, locals := 69 })
def f_X6_raw_b48 (s0 : Int32) (w : Wd) : Option (Int32 × Wd) :=
  some (s0, w)
set_option maxRecDepth 100000 in
set_option maxHeartbeats 4000000 in
theorem wk_X6_raw_b48 (Z : CSp) (w : Wd) (s0 : Int32)  : Wm (EM Z) MX6_raw oIw w 48 [] [Value.int s0] (f_X6_raw_b48 s0 w) := by
  unfold f_X6_raw_b48
  exact r_iretw rfl dX6_raw_48
def f_X6_raw_b44 (w : Wd) : Option (Int32 × Wd) :=
  (f_X6_bad w).bind (fun z2 => f_X6_raw_b48 z2.1 z2.2)
set_option maxRecDepth 100000 in
set_option maxHeartbeats 4000000 in
theorem wk_X6_raw_b44 (Z : CSp) (w : Wd)   : Wm (EM Z) MX6_raw oIw w 44 [(0, Value.ref (aC Z 0))] [] (f_X6_raw_b44 w) := by
  unfold f_X6_raw_b44
  refine r_aload_n dX6_raw_44 0 rfl ?_
  refine r_callV_Iw [] cfX6_bad (m_X6_bad Z w) km_X6_54 ⟨rfl, rfl, (Nat.le_of_ble_eq_true rfl), (Nat.le_of_ble_eq_true rfl)⟩ rfl rfl 0 (qM_0 Z w) rfl rfl (Nat.le_of_ble_eq_true rfl) dX6_raw_45 (fun z2 => ?_)
  refine r_lv [] rfl ?_
  exact wk_X6_raw_b48 Z z2.2 z2.1
def f_X6_raw (x1 : Int32) (x2 : Int32) (x3 : Int32) (x4 : Int32) (x5 : Int32) (w : Wd) : Option (Int32 × Wd) :=
  (f_X6_isRate x1 x2 x3 x4 w).bind (fun v1 => if v1 = 0 then (f_X6_raw_b44 w) else ((f_X6_in x5 (0 : Int32) (3 : Int32)).bind (fun v2 => if v2 = 0 then (f_X6_raw_b44 w) else ((f_X6_cellPlace x1 x2 x3).bind (fun v3 => if inb ((v3 + ((4 : Int32) * x4)) + x5) 395 = true then (f_X6_raw_b48 (w.1 1 ((v3 + ((4 : Int32) * x4)) + x5).toNatClampNeg) w) else none)))))
set_option maxRecDepth 100000 in
set_option maxHeartbeats 4000000 in
theorem wk_X6_raw (Z : CSp) (w : Wd) (x1 : Int32) (x2 : Int32) (x3 : Int32) (x4 : Int32) (x5 : Int32)  : Wm (EM Z) MX6_raw oIw w 0 [(0, Value.ref (aC Z 0)), (1, Value.int x1), (2, Value.int x2), (3, Value.int x3), (4, Value.int x4), (5, Value.int x5)] [] (f_X6_raw x1 x2 x3 x4 x5 w) := by
  unfold f_X6_raw
  refine r_aload_n dX6_raw_0 0 rfl ?_
  refine r_iload_n dX6_raw_1 1 rfl ?_
  refine r_iload_n dX6_raw_2 2 rfl ?_
  refine r_iload_n dX6_raw_3 3 rfl ?_
  refine r_iload dX6_raw_4 4 rfl ?_
  refine r_callV_I [Value.int x1, Value.int x2, Value.int x3, Value.int x4] cfX6_isRate (m_X6_isRate Z w x1 x2 x3 x4) km_X6_136 ⟨rfl, rfl, (Nat.le_of_ble_eq_true rfl), (Nat.le_of_ble_eq_true rfl)⟩ rfl rfl 0 (qM_0 Z w) rfl rfl (Nat.le_of_ble_eq_true rfl) dX6_raw_6 (fun v1 => ?_)
  refine r_if_eq (tgt := 44) dX6_raw_9 (by decide) (fun _ => ?_) (fun _ => ?_)
  · refine r_lv [0] rfl ?_
    exact wk_X6_raw_b44 Z w
  · refine r_iload dX6_raw_12 5 rfl ?_
    refine r_iconst (v := 0) dX6_raw_14 (by decide) ?_
    refine r_iconst (v := 3) dX6_raw_15 (by decide) ?_
    refine r_callS_I [Value.int x5, Value.int (0 : Int32), Value.int (3 : Int32)] cfX6_in (m_X6_in Z w x5 (0 : Int32) (3 : Int32)) km_X6_60 ⟨rfl, rfl, (Nat.le_of_ble_eq_true rfl), (Nat.le_of_ble_eq_true rfl)⟩ rfl rfl (Nat.le_of_ble_eq_true rfl) dX6_raw_16 (fun v2 => ?_)
    refine r_if_eq (tgt := 44) dX6_raw_19 (by decide) (fun _ => ?_) (fun _ => ?_)
    · refine r_lv [0] rfl ?_
      exact wk_X6_raw_b44 Z w
    · refine r_aload_n dX6_raw_22 0 rfl ?_
      refine r_get FX6 0 (Nat.le_of_ble_eq_true rfl) kf_X6_7 0 (qM_0 Z w) rfl dX6_raw_23 ?_
      refine r_iload_n dX6_raw_26 1 rfl ?_
      refine r_iload_n dX6_raw_27 2 rfl ?_
      refine r_iload_n dX6_raw_28 3 rfl ?_
      refine r_callS_I [Value.int x1, Value.int x2, Value.int x3] cfX6_cellPlace (m_X6_cellPlace Z w x1 x2 x3) km_X6_72 ⟨rfl, rfl, (Nat.le_of_ble_eq_true rfl), (Nat.le_of_ble_eq_true rfl)⟩ rfl rfl (Nat.le_of_ble_eq_true rfl) dX6_raw_29 (fun v3 => ?_)
      refine r_iconst (v := 4) dX6_raw_32 (by decide) ?_
      refine r_iload dX6_raw_33 4 rfl ?_
      refine r_imul dX6_raw_35 ?_
      refine r_iadd dX6_raw_36 ?_
      refine r_iload dX6_raw_37 5 rfl ?_
      refine r_iadd dX6_raw_39 ?_
      refine r_iald 1 (qM_1 Z w) rfl dX6_raw_40 ?_
      refine r_goto (tgt := 48) dX6_raw_41 (by decide) ?_
      refine r_lv [] rfl ?_
      exact wk_X6_raw_b48 Z w (w.1 1 ((v3 + ((4 : Int32) * x4)) + x5).toNatClampNeg)
theorem m_X6_raw (Z : CSp) (w : Wd) (x1 : Int32) (x2 : Int32) (x3 : Int32) (x4 : Int32) (x5 : Int32) : MetM (EM Z) yX6_raw cX6_raw 6 (some .int) { frames := 3, cells := 0, slots := 0, locals := 69 } oIw [Value.ref (aC Z 0), Value.int x1, Value.int x2, Value.int x3, Value.int x4, Value.int x5] w (f_X6_raw x1 x2 x3 x4 x5 w) := MetM_of (plainFor_of_name (by decide)) (Nat.le_of_ble_eq_true rfl) (wk_X6_raw Z w x1 x2 x3 x4 x5)
abbrev MX6_refused : Mt := (cX6_refused, RX6, 2, some .int, { frames := 1, cells := 0, slots := 0, locals := 22 })
def f_X6_refused_b21 (s0 : Int32) (w : Wd) : Option (Int32 × Wd) :=
  some (s0, w)
set_option maxRecDepth 100000 in
set_option maxHeartbeats 4000000 in
theorem wk_X6_refused_b21 (Z : CSp) (w : Wd) (s0 : Int32)  : Wm (EM Z) MX6_refused oIw w 21 [] [Value.int s0] (f_X6_refused_b21 s0 w) := by
  unfold f_X6_refused_b21
  exact r_iretw rfl dX6_refused_21
def f_X6_refused (x1 : Int32) (w : Wd) : Option (Int32 × Wd) :=
  (f_X6_in x1 (0 : Int32) (4 : Int32)).bind (fun v1 => if v1 = 0 then ((f_X6_bad w).bind (fun z2 => f_X6_refused_b21 z2.1 z2.2)) else ((f_X6_refusedOf x1 w).bind (fun v3 => f_X6_refused_b21 v3 w)))
set_option maxRecDepth 100000 in
set_option maxHeartbeats 4000000 in
theorem wk_X6_refused (Z : CSp) (w : Wd) (x1 : Int32)  : Wm (EM Z) MX6_refused oIw w 0 [(0, Value.ref (aC Z 0)), (1, Value.int x1)] [] (f_X6_refused x1 w) := by
  unfold f_X6_refused
  refine r_iload_n dX6_refused_0 1 rfl ?_
  refine r_iconst (v := 0) dX6_refused_1 (by decide) ?_
  refine r_iconst (v := 4) dX6_refused_2 (by decide) ?_
  refine r_callS_I [Value.int x1, Value.int (0 : Int32), Value.int (4 : Int32)] cfX6_in (m_X6_in Z w x1 (0 : Int32) (4 : Int32)) km_X6_60 ⟨rfl, rfl, (Nat.le_of_ble_eq_true rfl), (Nat.le_of_ble_eq_true rfl)⟩ rfl rfl (Nat.le_of_ble_eq_true rfl) dX6_refused_3 (fun v1 => ?_)
  refine r_if_eq (tgt := 17) dX6_refused_6 (by decide) (fun _ => ?_) (fun _ => ?_)
  · refine r_aload_n dX6_refused_17 0 rfl ?_
    refine r_callV_Iw [] cfX6_bad (m_X6_bad Z w) km_X6_54 ⟨rfl, rfl, (Nat.le_of_ble_eq_true rfl), (Nat.le_of_ble_eq_true rfl)⟩ rfl rfl 0 (qM_0 Z w) rfl rfl (Nat.le_of_ble_eq_true rfl) dX6_refused_18 (fun z2 => ?_)
    refine r_lv [] rfl ?_
    exact wk_X6_refused_b21 Z z2.2 z2.1
  · refine r_aload_n dX6_refused_9 0 rfl ?_
    refine r_iload_n dX6_refused_10 1 rfl ?_
    refine r_callV_I [Value.int x1] cfX6_refusedOf (m_X6_refusedOf Z w x1) km_X6_264 ⟨rfl, rfl, (Nat.le_of_ble_eq_true rfl), (Nat.le_of_ble_eq_true rfl)⟩ rfl rfl 0 (qM_0 Z w) rfl rfl (Nat.le_of_ble_eq_true rfl) dX6_refused_11 (fun v3 => ?_)
    refine r_goto (tgt := 21) dX6_refused_14 (by decide) ?_
    refine r_lv [] rfl ?_
    exact wk_X6_refused_b21 Z w v3
theorem m_X6_refused (Z : CSp) (w : Wd) (x1 : Int32) : MetM (EM Z) yX6_refused cX6_refused 2 (some .int) { frames := 1, cells := 0, slots := 0, locals := 22 } oIw [Value.ref (aC Z 0), Value.int x1] w (f_X6_refused x1 w) := MetM_of (plainFor_of_name (by decide)) (Nat.le_of_ble_eq_true rfl) (wk_X6_refused Z w x1)
abbrev MX6_sample : Mt := (cX6_sample, RX6, 8, some .int, { frames := 2, cells := 0, slots := 0, locals := 45 })
def f_X6_sample_b85 (s0 : Int32) (w : Wd) : Option (Int32 × Wd) :=
  (f_X6_finished s0 w).bind (fun z2 => some (z2.1, z2.2))
set_option maxRecDepth 100000 in
set_option maxHeartbeats 4000000 in
theorem wk_X6_sample_b85 (Z : CSp) (w : Wd) (s0 : Int32)  : Wm (EM Z) MX6_sample oIw w 85 [] [Value.int s0, Value.ref (aC Z 0)] (f_X6_sample_b85 s0 w) := by
  unfold f_X6_sample_b85
  refine r_callV_Iw [Value.int s0] cfX6_finished (m_X6_finished Z w s0) km_X6_95 ⟨rfl, rfl, (Nat.le_of_ble_eq_true rfl), (Nat.le_of_ble_eq_true rfl)⟩ rfl rfl 0 (qM_0 Z w) rfl rfl (Nat.le_of_ble_eq_true rfl) dX6_sample_85 (fun z2 => ?_)
  exact r_iretw rfl dX6_sample_88
def f_X6_sample_b47 (x1 : Int32) (x2 : Int32) (x3 : Int32) (x4 : Int32) (x5 : Int32) (x6 : Int32) (s0 : Int32) (w : Wd) : Option (Int32 × Wd) :=
  (f_X6_laysAside w).bind (fun w4 => if s0 = 0 then (f_X6_sample_b85 (-10002 : Int32) w4) else ((f_X6_cellPlace x1 x2 x3).bind (fun v5 => (f_X6_putSample ((v5 + ((4 : Int32) * x4)) + x5) x6 w4).bind (fun z6 => f_X6_sample_b85 z6.1 z6.2))))
set_option maxRecDepth 100000 in
set_option maxHeartbeats 4000000 in
theorem wk_X6_sample_b47 (Z : CSp) (w : Wd) (x1 : Int32) (x2 : Int32) (x3 : Int32) (x4 : Int32) (x5 : Int32) (x6 : Int32) (s0 : Int32)  : Wm (EM Z) MX6_sample oIw w 47 [(0, Value.ref (aC Z 0)), (1, Value.int x1), (2, Value.int x2), (3, Value.int x3), (4, Value.int x4), (5, Value.int x5), (6, Value.int x6)] [Value.int s0] (f_X6_sample_b47 x1 x2 x3 x4 x5 x6 s0 w) := by
  unfold f_X6_sample_b47
  refine r_istore (lv' := [(0, Value.ref (aC Z 0)), (1, Value.int x1), (2, Value.int x2), (3, Value.int x3), (4, Value.int x4), (5, Value.int x5), (6, Value.int x6), (7, Value.int s0)]) dX6_sample_47 (Nat.le_of_ble_eq_true rfl) [1, 2, 3, 4, 5, 6, 7, 0] rfl ?_
  refine r_aload_n dX6_sample_49 0 rfl ?_
  refine r_callV_Vw [] cfX6_laysAside (m_X6_laysAside Z w) km_X6_89 ⟨rfl, rfl, (Nat.le_of_ble_eq_true rfl), (Nat.le_of_ble_eq_true rfl)⟩ rfl rfl 0 (qM_0 Z w) rfl rfl (Nat.le_of_ble_eq_true rfl) dX6_sample_50 (fun w4 => ?_)
  refine r_aload_n dX6_sample_53 0 rfl ?_
  refine r_iload dX6_sample_54 7 rfl ?_
  refine r_if_eq (tgt := 82) dX6_sample_56 (by decide) (fun _ => ?_) (fun _ => ?_)
  · refine r_sipush (v := -10002) dX6_sample_82 (by decide) ?_
    refine r_lv [] rfl ?_
    exact wk_X6_sample_b85 Z w4 (-10002 : Int32)
  · refine r_aload_n dX6_sample_59 0 rfl ?_
    refine r_iload_n dX6_sample_60 1 rfl ?_
    refine r_iload_n dX6_sample_61 2 rfl ?_
    refine r_iload_n dX6_sample_62 3 rfl ?_
    refine r_callS_I [Value.int x1, Value.int x2, Value.int x3] cfX6_cellPlace (m_X6_cellPlace Z w4 x1 x2 x3) km_X6_72 ⟨rfl, rfl, (Nat.le_of_ble_eq_true rfl), (Nat.le_of_ble_eq_true rfl)⟩ rfl rfl (Nat.le_of_ble_eq_true rfl) dX6_sample_63 (fun v5 => ?_)
    refine r_iconst (v := 4) dX6_sample_66 (by decide) ?_
    refine r_iload dX6_sample_67 4 rfl ?_
    refine r_imul dX6_sample_69 ?_
    refine r_iadd dX6_sample_70 ?_
    refine r_iload dX6_sample_71 5 rfl ?_
    refine r_iadd dX6_sample_73 ?_
    refine r_iload dX6_sample_74 6 rfl ?_
    refine r_callV_Iw [Value.int ((v5 + ((4 : Int32) * x4)) + x5), Value.int x6] cfX6_putSample (m_X6_putSample Z w4 ((v5 + ((4 : Int32) * x4)) + x5) x6) km_X6_104 ⟨rfl, rfl, (Nat.le_of_ble_eq_true rfl), (Nat.le_of_ble_eq_true rfl)⟩ rfl rfl 0 (qM_0 Z w4) rfl rfl (Nat.le_of_ble_eq_true rfl) dX6_sample_76 (fun z6 => ?_)
    refine r_goto (tgt := 85) dX6_sample_79 (by decide) ?_
    refine r_lv [] rfl ?_
    exact wk_X6_sample_b85 Z z6.2 z6.1
def f_X6_sample_b46 (x1 : Int32) (x2 : Int32) (x3 : Int32) (x4 : Int32) (x5 : Int32) (x6 : Int32) (w : Wd) : Option (Int32 × Wd) :=
  f_X6_sample_b47 x1 x2 x3 x4 x5 x6 (0 : Int32) w
set_option maxRecDepth 100000 in
set_option maxHeartbeats 4000000 in
theorem wk_X6_sample_b46 (Z : CSp) (w : Wd) (x1 : Int32) (x2 : Int32) (x3 : Int32) (x4 : Int32) (x5 : Int32) (x6 : Int32)  : Wm (EM Z) MX6_sample oIw w 46 [(0, Value.ref (aC Z 0)), (1, Value.int x1), (2, Value.int x2), (3, Value.int x3), (4, Value.int x4), (5, Value.int x5), (6, Value.int x6)] [] (f_X6_sample_b46 x1 x2 x3 x4 x5 x6 w) := by
  unfold f_X6_sample_b46
  refine r_iconst (v := 0) dX6_sample_46 (by decide) ?_
  exact wk_X6_sample_b47 Z w x1 x2 x3 x4 x5 x6 (0 : Int32)
def f_X6_sample (x1 : Int32) (x2 : Int32) (x3 : Int32) (x4 : Int32) (x5 : Int32) (x6 : Int32) (w : Wd) : Option (Int32 × Wd) :=
  (f_X6_isCell x1 x2 x3 w).bind (fun v1 => if v1 = 0 then (f_X6_sample_b46 x1 x2 x3 x4 x5 x6 w) else ((f_X6_in x4 (0 : Int32) (2 : Int32)).bind (fun v2 => if v2 = 0 then (f_X6_sample_b46 x1 x2 x3 x4 x5 x6 w) else ((f_X6_in x5 (0 : Int32) (3 : Int32)).bind (fun v3 => if v3 = 0 then (f_X6_sample_b46 x1 x2 x3 x4 x5 x6 w) else ((f_X6_in x6 (0 : Int32) (4095 : Int32)).bind (fun v4 => if v4 = 0 then (f_X6_sample_b46 x1 x2 x3 x4 x5 x6 w) else (f_X6_sample_b47 x1 x2 x3 x4 x5 x6 (1 : Int32) w))))))))
set_option maxRecDepth 100000 in
set_option maxHeartbeats 4000000 in
theorem wk_X6_sample (Z : CSp) (w : Wd) (x1 : Int32) (x2 : Int32) (x3 : Int32) (x4 : Int32) (x5 : Int32) (x6 : Int32)  : Wm (EM Z) MX6_sample oIw w 0 [(0, Value.ref (aC Z 0)), (1, Value.int x1), (2, Value.int x2), (3, Value.int x3), (4, Value.int x4), (5, Value.int x5), (6, Value.int x6)] [] (f_X6_sample x1 x2 x3 x4 x5 x6 w) := by
  unfold f_X6_sample
  refine r_aload_n dX6_sample_0 0 rfl ?_
  refine r_iload_n dX6_sample_1 1 rfl ?_
  refine r_iload_n dX6_sample_2 2 rfl ?_
  refine r_iload_n dX6_sample_3 3 rfl ?_
  refine r_callV_I [Value.int x1, Value.int x2, Value.int x3] cfX6_isCell (m_X6_isCell Z w x1 x2 x3) km_X6_69 ⟨rfl, rfl, (Nat.le_of_ble_eq_true rfl), (Nat.le_of_ble_eq_true rfl)⟩ rfl rfl 0 (qM_0 Z w) rfl rfl (Nat.le_of_ble_eq_true rfl) dX6_sample_4 (fun v1 => ?_)
  refine r_if_eq (tgt := 46) dX6_sample_7 (by decide) (fun _ => ?_) (fun _ => ?_)
  · exact wk_X6_sample_b46 Z w x1 x2 x3 x4 x5 x6
  · refine r_iload dX6_sample_10 4 rfl ?_
    refine r_iconst (v := 0) dX6_sample_12 (by decide) ?_
    refine r_iconst (v := 2) dX6_sample_13 (by decide) ?_
    refine r_callS_I [Value.int x4, Value.int (0 : Int32), Value.int (2 : Int32)] cfX6_in (m_X6_in Z w x4 (0 : Int32) (2 : Int32)) km_X6_60 ⟨rfl, rfl, (Nat.le_of_ble_eq_true rfl), (Nat.le_of_ble_eq_true rfl)⟩ rfl rfl (Nat.le_of_ble_eq_true rfl) dX6_sample_14 (fun v2 => ?_)
    refine r_if_eq (tgt := 46) dX6_sample_17 (by decide) (fun _ => ?_) (fun _ => ?_)
    · exact wk_X6_sample_b46 Z w x1 x2 x3 x4 x5 x6
    · refine r_iload dX6_sample_20 5 rfl ?_
      refine r_iconst (v := 0) dX6_sample_22 (by decide) ?_
      refine r_iconst (v := 3) dX6_sample_23 (by decide) ?_
      refine r_callS_I [Value.int x5, Value.int (0 : Int32), Value.int (3 : Int32)] cfX6_in (m_X6_in Z w x5 (0 : Int32) (3 : Int32)) km_X6_60 ⟨rfl, rfl, (Nat.le_of_ble_eq_true rfl), (Nat.le_of_ble_eq_true rfl)⟩ rfl rfl (Nat.le_of_ble_eq_true rfl) dX6_sample_24 (fun v3 => ?_)
      refine r_if_eq (tgt := 46) dX6_sample_27 (by decide) (fun _ => ?_) (fun _ => ?_)
      · exact wk_X6_sample_b46 Z w x1 x2 x3 x4 x5 x6
      · refine r_iload dX6_sample_30 6 rfl ?_
        refine r_iconst (v := 0) dX6_sample_32 (by decide) ?_
        refine r_sipush (v := 4095) dX6_sample_33 (by decide) ?_
        refine r_callS_I [Value.int x6, Value.int (0 : Int32), Value.int (4095 : Int32)] cfX6_in (m_X6_in Z w x6 (0 : Int32) (4095 : Int32)) km_X6_60 ⟨rfl, rfl, (Nat.le_of_ble_eq_true rfl), (Nat.le_of_ble_eq_true rfl)⟩ rfl rfl (Nat.le_of_ble_eq_true rfl) dX6_sample_36 (fun v4 => ?_)
        refine r_if_eq (tgt := 46) dX6_sample_39 (by decide) (fun _ => ?_) (fun _ => ?_)
        · exact wk_X6_sample_b46 Z w x1 x2 x3 x4 x5 x6
        · refine r_iconst (v := 1) dX6_sample_42 (by decide) ?_
          refine r_goto (tgt := 47) dX6_sample_43 (by decide) ?_
          exact wk_X6_sample_b47 Z w x1 x2 x3 x4 x5 x6 (1 : Int32)
theorem m_X6_sample (Z : CSp) (w : Wd) (x1 : Int32) (x2 : Int32) (x3 : Int32) (x4 : Int32) (x5 : Int32) (x6 : Int32) : MetM (EM Z) yX6_sample cX6_sample 8 (some .int) { frames := 2, cells := 0, slots := 0, locals := 45 } oIw [Value.ref (aC Z 0), Value.int x1, Value.int x2, Value.int x3, Value.int x4, Value.int x5, Value.int x6] w (f_X6_sample x1 x2 x3 x4 x5 x6 w) := MetM_of (plainFor_of_name (by decide)) (Nat.le_of_ble_eq_true rfl) (wk_X6_sample Z w x1 x2 x3 x4 x5 x6)
abbrev MX6_sets : Mt := (cX6_sets, RX6, 3, some .int, { frames := 3, cells := 0, slots := 0, locals := 66 })
def f_X6_sets (x1 : Int32) (x2 : Int32) (w : Wd) : Option (Int32 × Wd) :=
  (f_X6_laysAside w).bind (fun w1 => (f_X6_putSetting x1 x2 w1).bind (fun z2 => (f_X6_finished z2.1 z2.2).bind (fun z3 => some (z3.1, z3.2))))
set_option maxRecDepth 100000 in
set_option maxHeartbeats 4000000 in
theorem wk_X6_sets (Z : CSp) (w : Wd) (x1 : Int32) (x2 : Int32)  : Wm (EM Z) MX6_sets oIw w 0 [(0, Value.ref (aC Z 0)), (1, Value.int x1), (2, Value.int x2)] [] (f_X6_sets x1 x2 w) := by
  unfold f_X6_sets
  refine r_aload_n dX6_sets_0 0 rfl ?_
  refine r_callV_Vw [] cfX6_laysAside (m_X6_laysAside Z w) km_X6_89 ⟨rfl, rfl, (Nat.le_of_ble_eq_true rfl), (Nat.le_of_ble_eq_true rfl)⟩ rfl rfl 0 (qM_0 Z w) rfl rfl (Nat.le_of_ble_eq_true rfl) dX6_sets_1 (fun w1 => ?_)
  refine r_aload_n dX6_sets_4 0 rfl ?_
  refine r_aload_n dX6_sets_5 0 rfl ?_
  refine r_iload_n dX6_sets_6 1 rfl ?_
  refine r_iload_n dX6_sets_7 2 rfl ?_
  refine r_callV_Iw [Value.int x1, Value.int x2] cfX6_putSetting (m_X6_putSetting Z w1 x1 x2) km_X6_101 ⟨rfl, rfl, (Nat.le_of_ble_eq_true rfl), (Nat.le_of_ble_eq_true rfl)⟩ rfl rfl 0 (qM_0 Z w1) rfl rfl (Nat.le_of_ble_eq_true rfl) dX6_sets_8 (fun z2 => ?_)
  refine r_callV_Iw [Value.int z2.1] cfX6_finished (m_X6_finished Z z2.2 z2.1) km_X6_95 ⟨rfl, rfl, (Nat.le_of_ble_eq_true rfl), (Nat.le_of_ble_eq_true rfl)⟩ rfl rfl 0 (qM_0 Z z2.2) rfl rfl (Nat.le_of_ble_eq_true rfl) dX6_sets_11 (fun z3 => ?_)
  exact r_iretw rfl dX6_sets_14
theorem m_X6_sets (Z : CSp) (w : Wd) (x1 : Int32) (x2 : Int32) : MetM (EM Z) yX6_sets cX6_sets 3 (some .int) { frames := 3, cells := 0, slots := 0, locals := 66 } oIw [Value.ref (aC Z 0), Value.int x1, Value.int x2] w (f_X6_sets x1 x2 w) := MetM_of (plainFor_of_name (by decide)) (Nat.le_of_ble_eq_true rfl) (wk_X6_sets Z w x1 x2)
abbrev MX6_shines : Mt := (cX6_shines, RX6, 5, some .int, { frames := 3, cells := 0, slots := 0, locals := 72 })
def f_X6_shines (x1 : Int32) (x2 : Int32) (x3 : Int32) (x4 : Int32) (w : Wd) : Option (Int32 × Wd) :=
  (f_X6_laysAside w).bind (fun w1 => (f_X6_putShine x1 x2 x3 x4 w1).bind (fun z2 => (f_X6_finished z2.1 z2.2).bind (fun z3 => some (z3.1, z3.2))))
set_option maxRecDepth 100000 in
set_option maxHeartbeats 4000000 in
theorem wk_X6_shines (Z : CSp) (w : Wd) (x1 : Int32) (x2 : Int32) (x3 : Int32) (x4 : Int32)  : Wm (EM Z) MX6_shines oIw w 0 [(0, Value.ref (aC Z 0)), (1, Value.int x1), (2, Value.int x2), (3, Value.int x3), (4, Value.int x4)] [] (f_X6_shines x1 x2 x3 x4 w) := by
  unfold f_X6_shines
  refine r_aload_n dX6_shines_0 0 rfl ?_
  refine r_callV_Vw [] cfX6_laysAside (m_X6_laysAside Z w) km_X6_89 ⟨rfl, rfl, (Nat.le_of_ble_eq_true rfl), (Nat.le_of_ble_eq_true rfl)⟩ rfl rfl 0 (qM_0 Z w) rfl rfl (Nat.le_of_ble_eq_true rfl) dX6_shines_1 (fun w1 => ?_)
  refine r_aload_n dX6_shines_4 0 rfl ?_
  refine r_aload_n dX6_shines_5 0 rfl ?_
  refine r_iload_n dX6_shines_6 1 rfl ?_
  refine r_iload_n dX6_shines_7 2 rfl ?_
  refine r_iload_n dX6_shines_8 3 rfl ?_
  refine r_iload dX6_shines_9 4 rfl ?_
  refine r_callV_Iw [Value.int x1, Value.int x2, Value.int x3, Value.int x4] cfX6_putShine (m_X6_putShine Z w1 x1 x2 x3 x4) km_X6_111 ⟨rfl, rfl, (Nat.le_of_ble_eq_true rfl), (Nat.le_of_ble_eq_true rfl)⟩ rfl rfl 0 (qM_0 Z w1) rfl rfl (Nat.le_of_ble_eq_true rfl) dX6_shines_11 (fun z2 => ?_)
  refine r_callV_Iw [Value.int z2.1] cfX6_finished (m_X6_finished Z z2.2 z2.1) km_X6_95 ⟨rfl, rfl, (Nat.le_of_ble_eq_true rfl), (Nat.le_of_ble_eq_true rfl)⟩ rfl rfl 0 (qM_0 Z z2.2) rfl rfl (Nat.le_of_ble_eq_true rfl) dX6_shines_14 (fun z3 => ?_)
  exact r_iretw rfl dX6_shines_17
theorem m_X6_shines (Z : CSp) (w : Wd) (x1 : Int32) (x2 : Int32) (x3 : Int32) (x4 : Int32) : MetM (EM Z) yX6_shines cX6_shines 5 (some .int) { frames := 3, cells := 0, slots := 0, locals := 72 } oIw [Value.ref (aC Z 0), Value.int x1, Value.int x2, Value.int x3, Value.int x4] w (f_X6_shines x1 x2 x3 x4 w) := MetM_of (plainFor_of_name (by decide)) (Nat.le_of_ble_eq_true rfl) (wk_X6_shines Z w x1 x2 x3 x4)
abbrev MX6_told : Mt := (cX6_told, RX6, 2, some .int, { frames := 1, cells := 0, slots := 0, locals := 22 })
def f_X6_told_b23 (s0 : Int32) (w : Wd) : Option (Int32 × Wd) :=
  some (s0, w)
set_option maxRecDepth 100000 in
set_option maxHeartbeats 4000000 in
theorem wk_X6_told_b23 (Z : CSp) (w : Wd) (s0 : Int32)  : Wm (EM Z) MX6_told oIw w 23 [] [Value.int s0] (f_X6_told_b23 s0 w) := by
  unfold f_X6_told_b23
  exact r_iretw rfl dX6_told_23
def f_X6_told (x1 : Int32) (w : Wd) : Option (Int32 × Wd) :=
  (f_X6_in x1 (0 : Int32) (10 : Int32)).bind (fun v1 => if v1 = 0 then ((f_X6_bad w).bind (fun z2 => f_X6_told_b23 z2.1 z2.2)) else (if inb x1 395 = true then (f_X6_told_b23 (w.1 1 (x1).toNatClampNeg) w) else none))
set_option maxRecDepth 100000 in
set_option maxHeartbeats 4000000 in
theorem wk_X6_told (Z : CSp) (w : Wd) (x1 : Int32)  : Wm (EM Z) MX6_told oIw w 0 [(0, Value.ref (aC Z 0)), (1, Value.int x1)] [] (f_X6_told x1 w) := by
  unfold f_X6_told
  refine r_iload_n dX6_told_0 1 rfl ?_
  refine r_iconst (v := 0) dX6_told_1 (by decide) ?_
  refine r_bipush (v := 10) dX6_told_2 (by decide) ?_
  refine r_callS_I [Value.int x1, Value.int (0 : Int32), Value.int (10 : Int32)] cfX6_in (m_X6_in Z w x1 (0 : Int32) (10 : Int32)) km_X6_60 ⟨rfl, rfl, (Nat.le_of_ble_eq_true rfl), (Nat.le_of_ble_eq_true rfl)⟩ rfl rfl (Nat.le_of_ble_eq_true rfl) dX6_told_4 (fun v1 => ?_)
  refine r_if_eq (tgt := 19) dX6_told_7 (by decide) (fun _ => ?_) (fun _ => ?_)
  · refine r_aload_n dX6_told_19 0 rfl ?_
    refine r_callV_Iw [] cfX6_bad (m_X6_bad Z w) km_X6_54 ⟨rfl, rfl, (Nat.le_of_ble_eq_true rfl), (Nat.le_of_ble_eq_true rfl)⟩ rfl rfl 0 (qM_0 Z w) rfl rfl (Nat.le_of_ble_eq_true rfl) dX6_told_20 (fun z2 => ?_)
    refine r_lv [] rfl ?_
    exact wk_X6_told_b23 Z z2.2 z2.1
  · refine r_aload_n dX6_told_10 0 rfl ?_
    refine r_get FX6 0 (Nat.le_of_ble_eq_true rfl) kf_X6_7 0 (qM_0 Z w) rfl dX6_told_11 ?_
    refine r_iload_n dX6_told_14 1 rfl ?_
    refine r_iald 1 (qM_1 Z w) rfl dX6_told_15 ?_
    refine r_goto (tgt := 23) dX6_told_16 (by decide) ?_
    refine r_lv [] rfl ?_
    exact wk_X6_told_b23 Z w (w.1 1 (x1).toNatClampNeg)
theorem m_X6_told (Z : CSp) (w : Wd) (x1 : Int32) : MetM (EM Z) yX6_told cX6_told 2 (some .int) { frames := 1, cells := 0, slots := 0, locals := 22 } oIw [Value.ref (aC Z 0), Value.int x1] w (f_X6_told x1 w) := MetM_of (plainFor_of_name (by decide)) (Nat.le_of_ble_eq_true rfl) (wk_X6_told Z w x1)
abbrev MX6_type : Mt := (cX6_type, RX6, 2, some .int, { frames := 1, cells := 0, slots := 0, locals := 22 })
def f_X6_type (x1 : Int32) (w : Wd) : Option (Int32 × Wd) :=
  (f_X6_in x1 (0 : Int32) (127 : Int32)).bind (fun v1 => if v1 = 0 then ((f_X6_bad w).bind (fun z5 => some (z5.1, z5.2))) else (if (w.1 0 6) = (150 : Int32) then (if inb (2 : Int32) 3 = true then (if inb (2 : Int32) 3 = true then (wput w 4 ((2 : Int32)).toNatClampNeg ((w.1 4 ((2 : Int32)).toNatClampNeg) + (1 : Int32)) (fun w4 => some ((-10004 : Int32), w4))) else none) else none) else (if inb (w.1 0 6) 150 = true then (wput w 5 (w.1 0 6).toNatClampNeg x1 (fun w2 => wput w2 0 6 ((w2.1 0 6) + (1 : Int32)) (fun w3 => some ((w3.1 0 6), w3)))) else none)))
set_option maxRecDepth 100000 in
set_option maxHeartbeats 4000000 in
theorem wk_X6_type (Z : CSp) (w : Wd) (x1 : Int32)  : Wm (EM Z) MX6_type oIw w 0 [(0, Value.ref (aC Z 0)), (1, Value.int x1)] [] (f_X6_type x1 w) := by
  unfold f_X6_type
  refine r_iload_n dX6_type_0 1 rfl ?_
  refine r_iconst (v := 0) dX6_type_1 (by decide) ?_
  refine r_bipush (v := 127) dX6_type_2 (by decide) ?_
  refine r_callS_I [Value.int x1, Value.int (0 : Int32), Value.int (127 : Int32)] cfX6_in (m_X6_in Z w x1 (0 : Int32) (127 : Int32)) km_X6_60 ⟨rfl, rfl, (Nat.le_of_ble_eq_true rfl), (Nat.le_of_ble_eq_true rfl)⟩ rfl rfl (Nat.le_of_ble_eq_true rfl) dX6_type_4 (fun v1 => ?_)
  refine r_if_ne (tgt := 15) dX6_type_7 (by decide) (fun _ => ?_) (fun _ => ?_)
  · refine r_aload_n dX6_type_15 0 rfl ?_
    refine r_get FX6 6 (Nat.le_of_ble_eq_true rfl) kf_X6_227 0 (qM_0 Z w) rfl dX6_type_16 ?_
    refine r_sipush (v := 150) dX6_type_19 (by decide) ?_
    refine r_icmp_ne (tgt := 39) dX6_type_22 (by decide) (fun _ => ?_) (fun _ => ?_)
    · refine r_aload_n dX6_type_39 0 rfl ?_
      refine r_get FX6 5 (Nat.le_of_ble_eq_true rfl) kf_X6_22 0 (qM_0 Z w) rfl dX6_type_40 ?_
      refine r_aload_n dX6_type_43 0 rfl ?_
      refine r_get FX6 6 (Nat.le_of_ble_eq_true rfl) kf_X6_227 0 (qM_0 Z w) rfl dX6_type_44 ?_
      refine r_iload_n dX6_type_47 1 rfl ?_
      refine r_iast (qM_5 Z w) rfl (uM_5 Z w x1) dX6_type_48 (fun w2 => ?_)
      refine r_aload_n dX6_type_49 0 rfl ?_
      refine r_dup dX6_type_50 rfl ?_
      refine r_get FX6 6 (Nat.le_of_ble_eq_true rfl) kf_X6_227 0 (qM_0 Z w2) rfl dX6_type_51 ?_
      refine r_iconst (v := 1) dX6_type_54 (by decide) ?_
      refine r_iadd dX6_type_55 ?_
      refine r_puti FX6 tyX6_ok nmX6 kf_X6_227 (qM_0 Z w2) ⟨(Nat.le_of_ble_eq_true rfl), (Nat.le_of_ble_eq_true rfl), rfl⟩ (by decide) (uM_0_6 Z w2 ((w2.1 0 6) + (1 : Int32))) dX6_type_56 (fun w3 => ?_)
      refine r_aload_n dX6_type_59 0 rfl ?_
      refine r_get FX6 6 (Nat.le_of_ble_eq_true rfl) kf_X6_227 0 (qM_0 Z w3) rfl dX6_type_60 ?_
      exact r_iretw rfl dX6_type_63
    · refine r_aload_n dX6_type_25 0 rfl ?_
      refine r_get FX6 4 (Nat.le_of_ble_eq_true rfl) kf_X6_19 0 (qM_0 Z w) rfl dX6_type_26 ?_
      refine r_iconst (v := 2) dX6_type_29 (by decide) ?_
      refine r_dup2 dX6_type_30 rfl rfl ?_
      refine r_iald 4 (qM_4 Z w) rfl dX6_type_31 ?_
      refine r_iconst (v := 1) dX6_type_32 (by decide) ?_
      refine r_iadd dX6_type_33 ?_
      refine r_iast (qM_4 Z w) rfl (uM_4 Z w ((w.1 4 ((2 : Int32)).toNatClampNeg) + (1 : Int32))) dX6_type_34 (fun w4 => ?_)
      refine r_sipush (v := -10004) dX6_type_35 (by decide) ?_
      exact r_iretw rfl dX6_type_38
  · refine r_aload_n dX6_type_10 0 rfl ?_
    refine r_callV_Iw [] cfX6_bad (m_X6_bad Z w) km_X6_54 ⟨rfl, rfl, (Nat.le_of_ble_eq_true rfl), (Nat.le_of_ble_eq_true rfl)⟩ rfl rfl 0 (qM_0 Z w) rfl rfl (Nat.le_of_ble_eq_true rfl) dX6_type_11 (fun z5 => ?_)
    exact r_iretw rfl dX6_type_14
theorem m_X6_type (Z : CSp) (w : Wd) (x1 : Int32) : MetM (EM Z) yX6_type cX6_type 2 (some .int) { frames := 1, cells := 0, slots := 0, locals := 22 } oIw [Value.ref (aC Z 0), Value.int x1] w (f_X6_type x1 w) := MetM_of (plainFor_of_name (by decide)) (Nat.le_of_ble_eq_true rfl) (wk_X6_type Z w x1)
abbrev MX6_wave : Mt := (cX6_wave, RX6, 3, some .int, { frames := 2, cells := 0, slots := 0, locals := 45 })
def f_X6_wave (x1 : Int32) (x2 : Int32) (w : Wd) : Option (Int32 × Wd) :=
  (f_X6_laysAside w).bind (fun w1 => (f_X6_putWave x1 x2 w1).bind (fun z2 => (f_X6_finished z2.1 z2.2).bind (fun z3 => some (z3.1, z3.2))))
set_option maxRecDepth 100000 in
set_option maxHeartbeats 4000000 in
theorem wk_X6_wave (Z : CSp) (w : Wd) (x1 : Int32) (x2 : Int32)  : Wm (EM Z) MX6_wave oIw w 0 [(0, Value.ref (aC Z 0)), (1, Value.int x1), (2, Value.int x2)] [] (f_X6_wave x1 x2 w) := by
  unfold f_X6_wave
  refine r_aload_n dX6_wave_0 0 rfl ?_
  refine r_callV_Vw [] cfX6_laysAside (m_X6_laysAside Z w) km_X6_89 ⟨rfl, rfl, (Nat.le_of_ble_eq_true rfl), (Nat.le_of_ble_eq_true rfl)⟩ rfl rfl 0 (qM_0 Z w) rfl rfl (Nat.le_of_ble_eq_true rfl) dX6_wave_1 (fun w1 => ?_)
  refine r_aload_n dX6_wave_4 0 rfl ?_
  refine r_aload_n dX6_wave_5 0 rfl ?_
  refine r_iload_n dX6_wave_6 1 rfl ?_
  refine r_iload_n dX6_wave_7 2 rfl ?_
  refine r_callV_Iw [Value.int x1, Value.int x2] cfX6_putWave (m_X6_putWave Z w1 x1 x2) km_X6_98 ⟨rfl, rfl, (Nat.le_of_ble_eq_true rfl), (Nat.le_of_ble_eq_true rfl)⟩ rfl rfl 0 (qM_0 Z w1) rfl rfl (Nat.le_of_ble_eq_true rfl) dX6_wave_8 (fun z2 => ?_)
  refine r_callV_Iw [Value.int z2.1] cfX6_finished (m_X6_finished Z z2.2 z2.1) km_X6_95 ⟨rfl, rfl, (Nat.le_of_ble_eq_true rfl), (Nat.le_of_ble_eq_true rfl)⟩ rfl rfl 0 (qM_0 Z z2.2) rfl rfl (Nat.le_of_ble_eq_true rfl) dX6_wave_11 (fun z3 => ?_)
  exact r_iretw rfl dX6_wave_14
theorem m_X6_wave (Z : CSp) (w : Wd) (x1 : Int32) (x2 : Int32) : MetM (EM Z) yX6_wave cX6_wave 3 (some .int) { frames := 2, cells := 0, slots := 0, locals := 45 } oIw [Value.ref (aC Z 0), Value.int x1, Value.int x2] w (f_X6_wave x1 x2 w) := MetM_of (plainFor_of_name (by decide)) (Nat.le_of_ble_eq_true rfl) (wk_X6_wave Z w x1 x2)
abbrev MX6_wraps : Mt := (cX6_wraps, RX6, 5, some .int, { frames := 5, cells := 0, slots := 0, locals := 111 })
def f_X6_wraps_b55 (s0 : Int32) (w : Wd) : Option (Int32 × Wd) :=
  some (s0, w)
set_option maxRecDepth 100000 in
set_option maxHeartbeats 4000000 in
theorem wk_X6_wraps_b55 (Z : CSp) (w : Wd) (s0 : Int32)  : Wm (EM Z) MX6_wraps oIw w 55 [] [Value.int s0] (f_X6_wraps_b55 s0 w) := by
  unfold f_X6_wraps_b55
  exact r_iretw rfl dX6_wraps_55
def f_X6_wraps (x1 : Int32) (x2 : Int32) (x3 : Int32) (x4 : Int32) (w : Wd) : Option (Int32 × Wd) :=
  (f_X6_isRate x1 x2 x3 x4 w).bind (fun v1 => if v1 = 0 then ((f_X6_bad w).bind (fun z5 => some (z5.1, z5.2))) else ((f_X6_cellPlace x1 x2 x3).bind (fun v2 => (f_X6_looksAt v2 w).bind (fun w3 => if (w3.1 0 7) = 0 then (if inb ((2 : Int32) + x4) 395 = true then (if ¬ (w3.1 1 ((2 : Int32) + x4).toNatClampNeg) = 0 then (f_X6_wraps_b55 ((w3.1 0 8) / (w3.1 1 ((2 : Int32) + x4).toNatClampNeg)) w3) else none) else none) else ((f_X6_no w3).bind (fun z4 => f_X6_wraps_b55 z4.1 z4.2))))))
set_option maxRecDepth 100000 in
set_option maxHeartbeats 4000000 in
theorem wk_X6_wraps (Z : CSp) (w : Wd) (x1 : Int32) (x2 : Int32) (x3 : Int32) (x4 : Int32)  : Wm (EM Z) MX6_wraps oIw w 0 [(0, Value.ref (aC Z 0)), (1, Value.int x1), (2, Value.int x2), (3, Value.int x3), (4, Value.int x4)] [] (f_X6_wraps x1 x2 x3 x4 w) := by
  unfold f_X6_wraps
  refine r_aload_n dX6_wraps_0 0 rfl ?_
  refine r_iload_n dX6_wraps_1 1 rfl ?_
  refine r_iload_n dX6_wraps_2 2 rfl ?_
  refine r_iload_n dX6_wraps_3 3 rfl ?_
  refine r_iload dX6_wraps_4 4 rfl ?_
  refine r_callV_I [Value.int x1, Value.int x2, Value.int x3, Value.int x4] cfX6_isRate (m_X6_isRate Z w x1 x2 x3 x4) km_X6_136 ⟨rfl, rfl, (Nat.le_of_ble_eq_true rfl), (Nat.le_of_ble_eq_true rfl)⟩ rfl rfl 0 (qM_0 Z w) rfl rfl (Nat.le_of_ble_eq_true rfl) dX6_wraps_6 (fun v1 => ?_)
  refine r_if_ne (tgt := 17) dX6_wraps_9 (by decide) (fun _ => ?_) (fun _ => ?_)
  · refine r_aload_n dX6_wraps_17 0 rfl ?_
    refine r_iload_n dX6_wraps_18 1 rfl ?_
    refine r_iload_n dX6_wraps_19 2 rfl ?_
    refine r_iload_n dX6_wraps_20 3 rfl ?_
    refine r_callS_I [Value.int x1, Value.int x2, Value.int x3] cfX6_cellPlace (m_X6_cellPlace Z w x1 x2 x3) km_X6_72 ⟨rfl, rfl, (Nat.le_of_ble_eq_true rfl), (Nat.le_of_ble_eq_true rfl)⟩ rfl rfl (Nat.le_of_ble_eq_true rfl) dX6_wraps_21 (fun v2 => ?_)
    refine r_callV_Vw [Value.int v2] cfX6_looksAt (m_X6_looksAt Z w v2) km_X6_187 ⟨rfl, rfl, (Nat.le_of_ble_eq_true rfl), (Nat.le_of_ble_eq_true rfl)⟩ rfl rfl 0 (qM_0 Z w) rfl rfl (Nat.le_of_ble_eq_true rfl) dX6_wraps_24 (fun w3 => ?_)
    refine r_aload_n dX6_wraps_27 0 rfl ?_
    refine r_get FX6 7 (Nat.le_of_ble_eq_true rfl) kf_X6_174 0 (qM_0 Z w3) rfl dX6_wraps_28 ?_
    refine r_if_ne (tgt := 51) dX6_wraps_31 (by decide) (fun _ => ?_) (fun _ => ?_)
    · refine r_aload_n dX6_wraps_51 0 rfl ?_
      refine r_callV_Iw [] cfX6_no (m_X6_no Z w3) km_X6_50 ⟨rfl, rfl, (Nat.le_of_ble_eq_true rfl), (Nat.le_of_ble_eq_true rfl)⟩ rfl rfl 0 (qM_0 Z w3) rfl rfl (Nat.le_of_ble_eq_true rfl) dX6_wraps_52 (fun z4 => ?_)
      refine r_lv [] rfl ?_
      exact wk_X6_wraps_b55 Z z4.2 z4.1
    · refine r_aload_n dX6_wraps_34 0 rfl ?_
      refine r_get FX6 8 (Nat.le_of_ble_eq_true rfl) kf_X6_167 0 (qM_0 Z w3) rfl dX6_wraps_35 ?_
      refine r_aload_n dX6_wraps_38 0 rfl ?_
      refine r_get FX6 0 (Nat.le_of_ble_eq_true rfl) kf_X6_7 0 (qM_0 Z w3) rfl dX6_wraps_39 ?_
      refine r_iconst (v := 2) dX6_wraps_42 (by decide) ?_
      refine r_iload dX6_wraps_43 4 rfl ?_
      refine r_iadd dX6_wraps_45 ?_
      refine r_iald 1 (qM_1 Z w3) rfl dX6_wraps_46 ?_
      refine r_idiv dX6_wraps_47 ?_
      refine r_goto (tgt := 55) dX6_wraps_48 (by decide) ?_
      refine r_lv [] rfl ?_
      exact wk_X6_wraps_b55 Z w3 ((w3.1 0 8) / (w3.1 1 ((2 : Int32) + x4).toNatClampNeg))
  · refine r_aload_n dX6_wraps_12 0 rfl ?_
    refine r_callV_Iw [] cfX6_bad (m_X6_bad Z w) km_X6_54 ⟨rfl, rfl, (Nat.le_of_ble_eq_true rfl), (Nat.le_of_ble_eq_true rfl)⟩ rfl rfl 0 (qM_0 Z w) rfl rfl (Nat.le_of_ble_eq_true rfl) dX6_wraps_13 (fun z5 => ?_)
    exact r_iretw rfl dX6_wraps_16
theorem m_X6_wraps (Z : CSp) (w : Wd) (x1 : Int32) (x2 : Int32) (x3 : Int32) (x4 : Int32) : MetM (EM Z) yX6_wraps cX6_wraps 5 (some .int) { frames := 5, cells := 0, slots := 0, locals := 111 } oIw [Value.ref (aC Z 0), Value.int x1, Value.int x2, Value.int x3, Value.int x4] w (f_X6_wraps x1 x2 x3 x4 w) := MetM_of (plainFor_of_name (by decide)) (Nat.le_of_ble_eq_true rfl) (wk_X6_wraps Z w x1 x2 x3 x4)
