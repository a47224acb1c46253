abbrev MX6_filledOf : Mt := (cX6_filledOf, RX6, 5, some .int, { frames := 6, cells := 0, slots := 0, locals := 137 })
def f_X6_filledOf_b94 (s0 : Int32) (w : Wd) : Option (Int32 × Wd) :=
  some (s0, w)
set_option maxRecDepth 100000 in
set_option maxHeartbeats 4000000 in
theorem wk_X6_filledOf_b94 (Z : CSp) (w : Wd) (s0 : Int32)  : Wm (EM Z) MX6_filledOf oIw w 94 [] [Value.int s0] (f_X6_filledOf_b94 s0 w) := by
  unfold f_X6_filledOf_b94
  exact r_iretw rfl dX6_filledOf_94
def f_X6_filledOf (x1 : Int32) (x2 : Int32) (x3 : Int32) (w : Wd) : Option (Int32 × Wd) :=
  (f_X6_cellPlace x1 x2 x3).bind (fun v1 => (f_X6_glowOf v1 w).bind (fun v2 => wput w 0 18 (FP.fconst0).toInt32 (fun w3 => wput w3 0 19 (FP.fconst0).toInt32 (fun w4 => wput w4 0 20 (0 : Int32) (fun w5 => (f_X6_weighs x1 x2 (x3 - (1 : Int32)) v2 w5).bind (fun w6 => (f_X6_weighs x1 (x2 + (1 : Int32)) x3 v2 w6).bind (fun w7 => (f_X6_weighs x1 x2 (x3 + (1 : Int32)) v2 w7).bind (fun w8 => (f_X6_weighs x1 (x2 - (1 : Int32)) x3 v2 w8).bind (fun w9 => if (w9.1 0 20) = 0 then (f_X6_filledOf_b94 (-10001 : Int32) w9) else (if nn32 (FP.fdiv (w9.1 0 19).toUInt32 (w9.1 0 18).toUInt32) = true then (f_X6_filledOf_b94 (FP.f2i (FP.fdiv (w9.1 0 19).toUInt32 (w9.1 0 18).toUInt32)) w9) else none))))))))))
set_option maxRecDepth 100000 in
set_option maxHeartbeats 4000000 in
theorem wk_X6_filledOf (Z : CSp) (w : Wd) (x1 : Int32) (x2 : Int32) (x3 : Int32)  : Wm (EM Z) MX6_filledOf oIw w 0 [(0, Value.ref (aC Z 0)), (1, Value.int x1), (2, Value.int x2), (3, Value.int x3)] [] (f_X6_filledOf x1 x2 x3 w) := by
  unfold f_X6_filledOf
  refine r_aload_n dX6_filledOf_0 0 rfl ?_
  refine r_iload_n dX6_filledOf_1 1 rfl ?_
  refine r_iload_n dX6_filledOf_2 2 rfl ?_
  refine r_iload_n dX6_filledOf_3 3 rfl ?_
  refine r_callS_I [Value.int x1, Value.int x2, Value.int x3] cfX6_cellPlace (m_X6_cellPlace Z w x1 x2 x3) km_X6_72 ⟨rfl, rfl, (Nat.le_of_ble_eq_true rfl), (Nat.le_of_ble_eq_true rfl)⟩ rfl rfl (Nat.le_of_ble_eq_true rfl) dX6_filledOf_4 (fun v1 => ?_)
  refine r_callV_F [Value.int v1] cfX6_glowOf (m_X6_glowOf Z w v1) km_X6_190 ⟨rfl, rfl, (Nat.le_of_ble_eq_true rfl), (Nat.le_of_ble_eq_true rfl)⟩ rfl rfl 0 (qM_0 Z w) rfl rfl (Nat.le_of_ble_eq_true rfl) dX6_filledOf_7 (fun v2 => ?_)
  refine r_fstore (lv' := [(0, Value.ref (aC Z 0)), (1, Value.int x1), (2, Value.int x2), (3, Value.int x3), (4, Value.float v2)]) dX6_filledOf_10 (Nat.le_of_ble_eq_true rfl) [1, 2, 3, 4, 0] rfl ?_
  refine r_aload_n dX6_filledOf_12 0 rfl ?_
  refine r_fconst0 dX6_filledOf_13 ?_
  refine r_putf FX6 tyX6_ok nmX6 kf_X6_193 (qM_0 Z w) ⟨(Nat.le_of_ble_eq_true rfl), (Nat.le_of_ble_eq_true rfl), rfl⟩ (by decide) (uM_0_18 Z w FP.fconst0) dX6_filledOf_14 (fun w3 => ?_)
  refine r_aload_n dX6_filledOf_17 0 rfl ?_
  refine r_fconst0 dX6_filledOf_18 ?_
  refine r_putf FX6 tyX6_ok nmX6 kf_X6_197 (qM_0 Z w3) ⟨(Nat.le_of_ble_eq_true rfl), (Nat.le_of_ble_eq_true rfl), rfl⟩ (by decide) (uM_0_19 Z w3 FP.fconst0) dX6_filledOf_19 (fun w4 => ?_)
  refine r_aload_n dX6_filledOf_22 0 rfl ?_
  refine r_iconst (v := 0) dX6_filledOf_23 (by decide) ?_
  refine r_putz FX6 tyX6_ok nmX6 kf_X6_200 (qM_0 Z w4) ⟨(Nat.le_of_ble_eq_true rfl), (Nat.le_of_ble_eq_true rfl), rfl⟩ (by decide) ⟨by decide, by decide⟩ (uM_0_20 Z w4 (0 : Int32)) dX6_filledOf_24 (fun w5 => ?_)
  refine r_aload_n dX6_filledOf_27 0 rfl ?_
  refine r_iload_n dX6_filledOf_28 1 rfl ?_
  refine r_iload_n dX6_filledOf_29 2 rfl ?_
  refine r_iload_n dX6_filledOf_30 3 rfl ?_
  refine r_iconst (v := 1) dX6_filledOf_31 (by decide) ?_
  refine r_isub dX6_filledOf_32 ?_
  refine r_fload dX6_filledOf_33 4 rfl ?_
  refine r_callV_Vw [Value.int x1, Value.int x2, Value.int (x3 - (1 : Int32)), Value.float v2] cfX6_weighs (m_X6_weighs Z w5 x1 x2 (x3 - (1 : Int32)) v2) km_X6_204 ⟨rfl, rfl, (Nat.le_of_ble_eq_true rfl), (Nat.le_of_ble_eq_true rfl)⟩ rfl rfl 0 (qM_0 Z w5) rfl rfl (Nat.le_of_ble_eq_true rfl) dX6_filledOf_35 (fun w6 => ?_)
  refine r_aload_n dX6_filledOf_38 0 rfl ?_
  refine r_iload_n dX6_filledOf_39 1 rfl ?_
  refine r_iload_n dX6_filledOf_40 2 rfl ?_
  refine r_iconst (v := 1) dX6_filledOf_41 (by decide) ?_
  refine r_iadd dX6_filledOf_42 ?_
  refine r_iload_n dX6_filledOf_43 3 rfl ?_
  refine r_fload dX6_filledOf_44 4 rfl ?_
  refine r_callV_Vw [Value.int x1, Value.int (x2 + (1 : Int32)), Value.int x3, Value.float v2] cfX6_weighs (m_X6_weighs Z w6 x1 (x2 + (1 : Int32)) x3 v2) km_X6_204 ⟨rfl, rfl, (Nat.le_of_ble_eq_true rfl), (Nat.le_of_ble_eq_true rfl)⟩ rfl rfl 0 (qM_0 Z w6) rfl rfl (Nat.le_of_ble_eq_true rfl) dX6_filledOf_46 (fun w7 => ?_)
  refine r_aload_n dX6_filledOf_49 0 rfl ?_
  refine r_iload_n dX6_filledOf_50 1 rfl ?_
  refine r_iload_n dX6_filledOf_51 2 rfl ?_
  refine r_iload_n dX6_filledOf_52 3 rfl ?_
  refine r_iconst (v := 1) dX6_filledOf_53 (by decide) ?_
  refine r_iadd dX6_filledOf_54 ?_
  refine r_fload dX6_filledOf_55 4 rfl ?_
  refine r_callV_Vw [Value.int x1, Value.int x2, Value.int (x3 + (1 : Int32)), Value.float v2] cfX6_weighs (m_X6_weighs Z w7 x1 x2 (x3 + (1 : Int32)) v2) km_X6_204 ⟨rfl, rfl, (Nat.le_of_ble_eq_true rfl), (Nat.le_of_ble_eq_true rfl)⟩ rfl rfl 0 (qM_0 Z w7) rfl rfl (Nat.le_of_ble_eq_true rfl) dX6_filledOf_57 (fun w8 => ?_)
  refine r_aload_n dX6_filledOf_60 0 rfl ?_
  refine r_iload_n dX6_filledOf_61 1 rfl ?_
  refine r_iload_n dX6_filledOf_62 2 rfl ?_
  refine r_iconst (v := 1) dX6_filledOf_63 (by decide) ?_
  refine r_isub dX6_filledOf_64 ?_
  refine r_iload_n dX6_filledOf_65 3 rfl ?_
  refine r_fload dX6_filledOf_66 4 rfl ?_
  refine r_callV_Vw [Value.int x1, Value.int (x2 - (1 : Int32)), Value.int x3, Value.float v2] cfX6_weighs (m_X6_weighs Z w8 x1 (x2 - (1 : Int32)) x3 v2) km_X6_204 ⟨rfl, rfl, (Nat.le_of_ble_eq_true rfl), (Nat.le_of_ble_eq_true rfl)⟩ rfl rfl 0 (qM_0 Z w8) rfl rfl (Nat.le_of_ble_eq_true rfl) dX6_filledOf_68 (fun w9 => ?_)
  refine r_aload_n dX6_filledOf_71 0 rfl ?_
  refine r_get FX6 20 (Nat.le_of_ble_eq_true rfl) kf_X6_200 0 (qM_0 Z w9) rfl dX6_filledOf_72 ?_
  refine r_if_eq (tgt := 91) dX6_filledOf_75 (by decide) (fun _ => ?_) (fun _ => ?_)
  · refine r_sipush (v := -10001) dX6_filledOf_91 (by decide) ?_
    refine r_lv [] rfl ?_
    exact wk_X6_filledOf_b94 Z w9 (-10001 : Int32)
  · refine r_aload_n dX6_filledOf_78 0 rfl ?_
    refine r_get FX6 19 (Nat.le_of_ble_eq_true rfl) kf_X6_197 0 (qM_0 Z w9) rfl dX6_filledOf_79 ?_
    refine r_aload_n dX6_filledOf_82 0 rfl ?_
    refine r_get FX6 18 (Nat.le_of_ble_eq_true rfl) kf_X6_193 0 (qM_0 Z w9) rfl dX6_filledOf_83 ?_
    refine r_fdiv dX6_filledOf_86 ?_
    refine r_f2i dX6_filledOf_87 ?_
    refine r_goto (tgt := 94) dX6_filledOf_88 (by decide) ?_
    refine r_lv [] rfl ?_
    exact wk_X6_filledOf_b94 Z w9 (FP.f2i (FP.fdiv (w9.1 0 19).toUInt32 (w9.1 0 18).toUInt32))
theorem m_X6_filledOf (Z : CSp) (w : Wd) (x1 : Int32) (x2 : Int32) (x3 : Int32) : MetM (EM Z) yX6_filledOf cX6_filledOf 5 (some .int) { frames := 6, cells := 0, slots := 0, locals := 137 } oIw [Value.ref (aC Z 0), Value.int x1, Value.int x2, Value.int x3] w (f_X6_filledOf x1 x2 x3 w) := MetM_of (plainFor_of_name (by decide)) (Nat.le_of_ble_eq_true rfl) (wk_X6_filledOf Z w x1 x2 x3)
abbrev MX6_cell : Mt := (cX6_cell, RX6, 6, some .int, { frames := 7, cells := 0, slots := 0, locals := 161 })
def f_X6_cell_b146 (s0 : Int32) (w : Wd) : Option (Int32 × Wd) :=
  some (s0, w)
set_option maxRecDepth 100000 in
set_option maxHeartbeats 4000000 in
theorem wk_X6_cell_b146 (Z : CSp) (w : Wd) (s0 : Int32)  : Wm (EM Z) MX6_cell oIw w 146 [] [Value.int s0] (f_X6_cell_b146 s0 w) := by
  unfold f_X6_cell_b146
  exact r_iretw rfl dX6_cell_146
def f_X6_cell_b89 (x1 : Int32) (x2 : Int32) (x3 : Int32) (x4 : Int32) (s0 : Int32) (w : Wd) : Option (Int32 × Wd) :=
  if s0 = 0 then ((f_X6_no w).bind (fun z4 => some (z4.1, z4.2))) else (if x4 = 0 then (f_X6_cell_b146 (w.1 0 8) w) else (if x4 = (1 : Int32) then (f_X6_cell_b146 (w.1 0 9) w) else (if x4 = (2 : Int32) then (f_X6_cell_b146 (w.1 0 10) w) else ((f_X6_filledOf x1 x2 x3 w).bind (fun z3 => f_X6_cell_b146 z3.1 z3.2)))))
set_option maxRecDepth 100000 in
set_option maxHeartbeats 4000000 in
theorem wk_X6_cell_b89 (Z : CSp) (w : Wd) (x1 : Int32) (x2 : Int32) (x3 : Int32) (x4 : Int32) (s0 : Int32)  : Wm (EM Z) MX6_cell oIw w 89 [(0, Value.ref (aC Z 0)), (1, Value.int x1), (2, Value.int x2), (3, Value.int x3), (4, Value.int x4)] [Value.int s0] (f_X6_cell_b89 x1 x2 x3 x4 s0 w) := by
  unfold f_X6_cell_b89
  refine r_istore (lv' := [(0, Value.ref (aC Z 0)), (1, Value.int x1), (2, Value.int x2), (3, Value.int x3), (4, Value.int x4), (5, Value.int s0)]) dX6_cell_89 (Nat.le_of_ble_eq_true rfl) [1, 2, 3, 4, 5, 0] rfl ?_
  refine r_iload dX6_cell_91 5 rfl ?_
  refine r_if_ne (tgt := 101) dX6_cell_93 (by decide) (fun _ => ?_) (fun _ => ?_)
  · refine r_iload dX6_cell_101 4 rfl ?_
    refine r_if_ne (tgt := 113) dX6_cell_103 (by decide) (fun _ => ?_) (fun _ => ?_)
    · refine r_iload dX6_cell_113 4 rfl ?_
      refine r_iconst (v := 1) dX6_cell_115 (by decide) ?_
      refine r_icmp_ne (tgt := 126) dX6_cell_116 (by decide) (fun _ => ?_) (fun _ => ?_)
      · refine r_iload dX6_cell_126 4 rfl ?_
        refine r_iconst (v := 2) dX6_cell_128 (by decide) ?_
        refine r_icmp_ne (tgt := 139) dX6_cell_129 (by decide) (fun _ => ?_) (fun _ => ?_)
        · refine r_aload_n dX6_cell_139 0 rfl ?_
          refine r_iload_n dX6_cell_140 1 rfl ?_
          refine r_iload_n dX6_cell_141 2 rfl ?_
          refine r_iload_n dX6_cell_142 3 rfl ?_
          refine r_callV_Iw [Value.int x1, Value.int x2, Value.int x3] cfX6_filledOf (m_X6_filledOf Z w x1 x2 x3) km_X6_208 ⟨rfl, rfl, (Nat.le_of_ble_eq_true rfl), (Nat.le_of_ble_eq_true rfl)⟩ rfl rfl 0 (qM_0 Z w) rfl rfl (Nat.le_of_ble_eq_true rfl) dX6_cell_143 (fun z3 => ?_)
          refine r_lv [] rfl ?_
          exact wk_X6_cell_b146 Z z3.2 z3.1
        · refine r_aload_n dX6_cell_132 0 rfl ?_
          refine r_get FX6 10 (Nat.le_of_ble_eq_true rfl) kf_X6_164 0 (qM_0 Z w) rfl dX6_cell_133 ?_
          refine r_goto (tgt := 146) dX6_cell_136 (by decide) ?_
          refine r_lv [] rfl ?_
          exact wk_X6_cell_b146 Z w (w.1 0 10)
      · refine r_aload_n dX6_cell_119 0 rfl ?_
        refine r_get FX6 9 (Nat.le_of_ble_eq_true rfl) kf_X6_161 0 (qM_0 Z w) rfl dX6_cell_120 ?_
        refine r_goto (tgt := 146) dX6_cell_123 (by decide) ?_
        refine r_lv [] rfl ?_
        exact wk_X6_cell_b146 Z w (w.1 0 9)
    · refine r_aload_n dX6_cell_106 0 rfl ?_
      refine r_get FX6 8 (Nat.le_of_ble_eq_true rfl) kf_X6_167 0 (qM_0 Z w) rfl dX6_cell_107 ?_
      refine r_goto (tgt := 146) dX6_cell_110 (by decide) ?_
      refine r_lv [] rfl ?_
      exact wk_X6_cell_b146 Z w (w.1 0 8)
  · refine r_aload_n dX6_cell_96 0 rfl ?_
    refine r_callV_Iw [] cfX6_no (m_X6_no Z w) km_X6_50 ⟨rfl, rfl, (Nat.le_of_ble_eq_true rfl), (Nat.le_of_ble_eq_true rfl)⟩ rfl rfl 0 (qM_0 Z w) rfl rfl (Nat.le_of_ble_eq_true rfl) dX6_cell_97 (fun z4 => ?_)
    exact r_iretw rfl dX6_cell_100
def f_X6_cell_b20 (w : Wd) : Option (Int32 × Wd) :=
  (f_X6_bad w).bind (fun z2 => some (z2.1, z2.2))
set_option maxRecDepth 100000 in
set_option maxHeartbeats 4000000 in
theorem wk_X6_cell_b20 (Z : CSp) (w : Wd)   : Wm (EM Z) MX6_cell oIw w 20 [(0, Value.ref (aC Z 0))] [] (f_X6_cell_b20 w) := by
  unfold f_X6_cell_b20
  refine r_aload_n dX6_cell_20 0 rfl ?_
  refine r_callV_Iw [] cfX6_bad (m_X6_bad Z w) km_X6_54 ⟨rfl, rfl, (Nat.le_of_ble_eq_true rfl), (Nat.le_of_ble_eq_true rfl)⟩ rfl rfl 0 (qM_0 Z w) rfl rfl (Nat.le_of_ble_eq_true rfl) dX6_cell_21 (fun z2 => ?_)
  exact r_iretw rfl dX6_cell_24
def f_X6_cell (x1 : Int32) (x2 : Int32) (x3 : Int32) (x4 : Int32) (w : Wd) : Option (Int32 × Wd) :=
  (f_X6_isCell x1 x2 x3 w).bind (fun v1 => if v1 = 0 then (f_X6_cell_b20 w) else ((f_X6_in x4 (0 : Int32) (3 : Int32)).bind (fun v2 => if v2 = 0 then (f_X6_cell_b20 w) else ((f_X6_cellPlace x1 x2 x3).bind (fun v3 => (f_X6_looksAt v3 w).bind (fun w4 => if x4 = 0 then (if (w4.1 0 7) = 0 then (f_X6_cell_b89 x1 x2 x3 x4 (1 : Int32) w4) else (f_X6_cell_b89 x1 x2 x3 x4 (0 : Int32) w4)) else (if x4 = (3 : Int32) then (if (w4.1 0 7) = 0 then (f_X6_cell_b89 x1 x2 x3 x4 (0 : Int32) w4) else (f_X6_cell_b89 x1 x2 x3 x4 (1 : Int32) w4)) else (if (w4.1 0 7) = (4 : Int32) then (f_X6_cell_b89 x1 x2 x3 x4 (1 : Int32) w4) else (f_X6_cell_b89 x1 x2 x3 x4 (0 : Int32) w4)))))))))
set_option maxRecDepth 100000 in
set_option maxHeartbeats 4000000 in
theorem wk_X6_cell (Z : CSp) (w : Wd) (x1 : Int32) (x2 : Int32) (x3 : Int32) (x4 : Int32)  : Wm (EM Z) MX6_cell oIw w 0 [(0, Value.ref (aC Z 0)), (1, Value.int x1), (2, Value.int x2), (3, Value.int x3), (4, Value.int x4)] [] (f_X6_cell x1 x2 x3 x4 w) := by
  unfold f_X6_cell
  refine r_aload_n dX6_cell_0 0 rfl ?_
  refine r_iload_n dX6_cell_1 1 rfl ?_
  refine r_iload_n dX6_cell_2 2 rfl ?_
  refine r_iload_n dX6_cell_3 3 rfl ?_
  refine r_callV_I [Value.int x1, Value.int x2, Value.int x3] cfX6_isCell (m_X6_isCell Z w x1 x2 x3) km_X6_69 ⟨rfl, rfl, (Nat.le_of_ble_eq_true rfl), (Nat.le_of_ble_eq_true rfl)⟩ rfl rfl 0 (qM_0 Z w) rfl rfl (Nat.le_of_ble_eq_true rfl) dX6_cell_4 (fun v1 => ?_)
  refine r_if_eq (tgt := 20) dX6_cell_7 (by decide) (fun _ => ?_) (fun _ => ?_)
  · refine r_lv [0] rfl ?_
    exact wk_X6_cell_b20 Z w
  · refine r_iload dX6_cell_10 4 rfl ?_
    refine r_iconst (v := 0) dX6_cell_12 (by decide) ?_
    refine r_iconst (v := 3) dX6_cell_13 (by decide) ?_
    refine r_callS_I [Value.int x4, Value.int (0 : Int32), Value.int (3 : Int32)] cfX6_in (m_X6_in Z w x4 (0 : Int32) (3 : Int32)) km_X6_60 ⟨rfl, rfl, (Nat.le_of_ble_eq_true rfl), (Nat.le_of_ble_eq_true rfl)⟩ rfl rfl (Nat.le_of_ble_eq_true rfl) dX6_cell_14 (fun v2 => ?_)
    refine r_if_ne (tgt := 25) dX6_cell_17 (by decide) (fun _ => ?_) (fun _ => ?_)
    · refine r_aload_n dX6_cell_25 0 rfl ?_
      refine r_iload_n dX6_cell_26 1 rfl ?_
      refine r_iload_n dX6_cell_27 2 rfl ?_
      refine r_iload_n dX6_cell_28 3 rfl ?_
      refine r_callS_I [Value.int x1, Value.int x2, Value.int x3] cfX6_cellPlace (m_X6_cellPlace Z w x1 x2 x3) km_X6_72 ⟨rfl, rfl, (Nat.le_of_ble_eq_true rfl), (Nat.le_of_ble_eq_true rfl)⟩ rfl rfl (Nat.le_of_ble_eq_true rfl) dX6_cell_29 (fun v3 => ?_)
      refine r_callV_Vw [Value.int v3] cfX6_looksAt (m_X6_looksAt Z w v3) km_X6_187 ⟨rfl, rfl, (Nat.le_of_ble_eq_true rfl), (Nat.le_of_ble_eq_true rfl)⟩ rfl rfl 0 (qM_0 Z w) rfl rfl (Nat.le_of_ble_eq_true rfl) dX6_cell_32 (fun w4 => ?_)
      refine r_iload dX6_cell_35 4 rfl ?_
      refine r_if_ne (tgt := 55) dX6_cell_37 (by decide) (fun _ => ?_) (fun _ => ?_)
      · refine r_iload dX6_cell_55 4 rfl ?_
        refine r_iconst (v := 3) dX6_cell_57 (by decide) ?_
        refine r_icmp_ne (tgt := 76) dX6_cell_58 (by decide) (fun _ => ?_) (fun _ => ?_)
        · refine r_aload_n dX6_cell_76 0 rfl ?_
          refine r_get FX6 7 (Nat.le_of_ble_eq_true rfl) kf_X6_174 0 (qM_0 Z w4) rfl dX6_cell_77 ?_
          refine r_iconst (v := 4) dX6_cell_80 (by decide) ?_
          refine r_icmp_ne (tgt := 88) dX6_cell_81 (by decide) (fun _ => ?_) (fun _ => ?_)
          · refine r_iconst (v := 0) dX6_cell_88 (by decide) ?_
            exact wk_X6_cell_b89 Z w4 x1 x2 x3 x4 (0 : Int32)
          · refine r_iconst (v := 1) dX6_cell_84 (by decide) ?_
            refine r_goto (tgt := 89) dX6_cell_85 (by decide) ?_
            exact wk_X6_cell_b89 Z w4 x1 x2 x3 x4 (1 : Int32)
        · refine r_aload_n dX6_cell_61 0 rfl ?_
          refine r_get FX6 7 (Nat.le_of_ble_eq_true rfl) kf_X6_174 0 (qM_0 Z w4) rfl dX6_cell_62 ?_
          refine r_if_eq (tgt := 72) dX6_cell_65 (by decide) (fun _ => ?_) (fun _ => ?_)
          · refine r_iconst (v := 0) dX6_cell_72 (by decide) ?_
            refine r_goto (tgt := 89) dX6_cell_73 (by decide) ?_
            exact wk_X6_cell_b89 Z w4 x1 x2 x3 x4 (0 : Int32)
          · refine r_iconst (v := 1) dX6_cell_68 (by decide) ?_
            refine r_goto (tgt := 89) dX6_cell_69 (by decide) ?_
            exact wk_X6_cell_b89 Z w4 x1 x2 x3 x4 (1 : Int32)
      · refine r_aload_n dX6_cell_40 0 rfl ?_
        refine r_get FX6 7 (Nat.le_of_ble_eq_true rfl) kf_X6_174 0 (qM_0 Z w4) rfl dX6_cell_41 ?_
        refine r_if_ne (tgt := 51) dX6_cell_44 (by decide) (fun _ => ?_) (fun _ => ?_)
        · refine r_iconst (v := 0) dX6_cell_51 (by decide) ?_
          refine r_goto (tgt := 89) dX6_cell_52 (by decide) ?_
          exact wk_X6_cell_b89 Z w4 x1 x2 x3 x4 (0 : Int32)
        · refine r_iconst (v := 1) dX6_cell_47 (by decide) ?_
          refine r_goto (tgt := 89) dX6_cell_48 (by decide) ?_
          exact wk_X6_cell_b89 Z w4 x1 x2 x3 x4 (1 : Int32)
    · refine r_lv [0] rfl ?_
      exact wk_X6_cell_b20 Z w
theorem m_X6_cell (Z : CSp) (w : Wd) (x1 : Int32) (x2 : Int32) (x3 : Int32) (x4 : Int32) : MetM (EM Z) yX6_cell cX6_cell 6 (some .int) { frames := 7, cells := 0, slots := 0, locals := 161 } oIw [Value.ref (aC Z 0), Value.int x1, Value.int x2, Value.int x3, Value.int x4] w (f_X6_cell x1 x2 x3 x4 w) := MetM_of (plainFor_of_name (by decide)) (Nat.le_of_ble_eq_true rfl) (wk_X6_cell Z w x1 x2 x3 x4)
abbrev MX6_clear : Mt := (cX6_clear, RX6, 2, some .int, { frames := 0, cells := 0, slots := 0, locals := 0 })
def f_X6_clear (w : Wd) : Option (Int32 × Wd) :=
  jlet (w.1 0 6) (fun y1 => wput w 0 6 (0 : Int32) (fun w2 => some (y1, w2)))
set_option maxRecDepth 100000 in
set_option maxHeartbeats 4000000 in
theorem wk_X6_clear (Z : CSp) (w : Wd)   : Wm (EM Z) MX6_clear oIw w 0 [(0, Value.ref (aC Z 0))] [] (f_X6_clear w) := by
  unfold f_X6_clear
  refine r_aload_n dX6_clear_0 0 rfl ?_
  refine r_get FX6 6 (Nat.le_of_ble_eq_true rfl) kf_X6_227 0 (qM_0 Z w) rfl dX6_clear_1 ?_
  refine r_leti (fun y1 => ?_)
  refine r_istore_n (lv' := [(0, Value.ref (aC Z 0)), (1, Value.int y1)]) dX6_clear_4 (Nat.le_of_ble_eq_true rfl) [1, 0] rfl ?_
  refine r_aload_n dX6_clear_5 0 rfl ?_
  refine r_iconst (v := 0) dX6_clear_6 (by decide) ?_
  refine r_puti FX6 tyX6_ok nmX6 kf_X6_227 (qM_0 Z w) ⟨(Nat.le_of_ble_eq_true rfl), (Nat.le_of_ble_eq_true rfl), rfl⟩ (by decide) (uM_0_6 Z w (0 : Int32)) dX6_clear_7 (fun w2 => ?_)
  refine r_iload_n dX6_clear_10 1 rfl ?_
  exact r_iretw rfl dX6_clear_11
theorem m_X6_clear (Z : CSp) (w : Wd)  : MetM (EM Z) yX6_clear cX6_clear 2 (some .int) { frames := 0, cells := 0, slots := 0, locals := 0 } oIw [Value.ref (aC Z 0)] w (f_X6_clear w) := MetM_of (plainFor_of_name (by decide)) (Nat.le_of_ble_eq_true rfl) (wk_X6_clear Z w )
abbrev MX6_remembers : Mt := (cX6_remembers, RX6, 2, none, { frames := 0, cells := 0, slots := 0, locals := 0 })
def f_X6_remembers_b51  : Nat → Int32 → Wd → Option (Wd)
  | 0, _, _ => none
  | n + 1, x1, w =>
  if (395 : Int32) ≤ x1 then (wput w 0 3 ((w.1 0 3) + (1 : Int32)) (fun w3 => some w3)) else (if inb x1 395 = true then (if inb (((395 : Int32) * (w.1 0 3)) + x1) 1975 = true then (wput w 3 (((395 : Int32) * (w.1 0 3)) + x1).toNatClampNeg (w.1 2 (x1).toNatClampNeg) (fun w4 => f_X6_remembers_b51 n (x1 + 1) w4)) else none) else none)
set_option maxRecDepth 100000 in
set_option maxHeartbeats 4000000 in
theorem wk_X6_remembers_b51 (Z : CSp)   : ∀ (n : Nat) (x1 : Int32) (w : Wd), Wm (EM Z) MX6_remembers oVw w 51 [(0, Value.ref (aC Z 0)), (1, Value.int x1)] [] (f_X6_remembers_b51  n x1 w) := by
  intro n
  induction n with
  | zero =>
    intro x1 w
    exact r_none
  | succ n ih =>
    intro x1 w
    rw [f_X6_remembers_b51]
    refine r_iload_n dX6_remembers_51 1 rfl ?_
    refine r_sipush (v := 395) dX6_remembers_52 (by decide) ?_
    refine r_icmp_ge (tgt := 85) dX6_remembers_55 (by decide) (fun _ => ?_) (fun _ => ?_)
    · refine r_aload_n dX6_remembers_85 0 rfl ?_
      refine r_dup dX6_remembers_86 rfl ?_
      refine r_get FX6 3 (Nat.le_of_ble_eq_true rfl) kf_X6_46 0 (qM_0 Z w) rfl dX6_remembers_87 ?_
      refine r_iconst (v := 1) dX6_remembers_90 (by decide) ?_
      refine r_iadd dX6_remembers_91 ?_
      refine r_puti FX6 tyX6_ok nmX6 kf_X6_46 (qM_0 Z w) ⟨(Nat.le_of_ble_eq_true rfl), (Nat.le_of_ble_eq_true rfl), rfl⟩ (by decide) (uM_0_3 Z w ((w.1 0 3) + (1 : Int32))) dX6_remembers_92 (fun w3 => ?_)
      exact r_vret rfl dX6_remembers_95
    · refine r_aload_n dX6_remembers_58 0 rfl ?_
      refine r_get FX6 2 (Nat.le_of_ble_eq_true rfl) kf_X6_16 0 (qM_0 Z w) rfl dX6_remembers_59 ?_
      refine r_sipush (v := 395) dX6_remembers_62 (by decide) ?_
      refine r_aload_n dX6_remembers_65 0 rfl ?_
      refine r_get FX6 3 (Nat.le_of_ble_eq_true rfl) kf_X6_46 0 (qM_0 Z w) rfl dX6_remembers_66 ?_
      refine r_imul dX6_remembers_69 ?_
      refine r_iload_n dX6_remembers_70 1 rfl ?_
      refine r_iadd dX6_remembers_71 ?_
      refine r_aload_n dX6_remembers_72 0 rfl ?_
      refine r_get FX6 1 (Nat.le_of_ble_eq_true rfl) kf_X6_13 0 (qM_0 Z w) rfl dX6_remembers_73 ?_
      refine r_iload_n dX6_remembers_76 1 rfl ?_
      refine r_iald 2 (qM_2 Z w) rfl dX6_remembers_77 ?_
      refine r_iast (qM_3 Z w) rfl (uM_3 Z w (w.1 2 (x1).toNatClampNeg)) dX6_remembers_78 (fun w4 => ?_)
      refine r_iinc (lv' := [(0, Value.ref (aC Z 0)), (1, Value.int (x1 + 1))]) dX6_remembers_79 1 rfl (by rfl) (Nat.le_of_ble_eq_true rfl) [1, 0] rfl ?_
      refine r_goto (tgt := 51) dX6_remembers_82 (by decide) ?_
      exact ih (x1 + 1) w4
def f_X6_remembers_b49 (w : Wd) : Option (Wd) :=
  f_X6_remembers_b51 FUEL (0 : Int32) w
set_option maxRecDepth 100000 in
set_option maxHeartbeats 4000000 in
theorem wk_X6_remembers_b49 (Z : CSp) (w : Wd)   : Wm (EM Z) MX6_remembers oVw w 49 [(0, Value.ref (aC Z 0))] [] (f_X6_remembers_b49 w) := by
  unfold f_X6_remembers_b49
  refine r_iconst (v := 0) dX6_remembers_49 (by decide) ?_
  refine r_istore_n (lv' := [(0, Value.ref (aC Z 0)), (1, Value.int (0 : Int32))]) dX6_remembers_50 (Nat.le_of_ble_eq_true rfl) [1, 0] rfl ?_
  exact wk_X6_remembers_b51 Z FUEL (0 : Int32) w
def f_X6_remembers_b10  : Nat → Int32 → Wd → Option (Wd)
  | 0, _, _ => none
  | n + 1, x1, w =>
  if (1580 : Int32) ≤ x1 then (wput w 0 3 ((w.1 0 3) - (1 : Int32)) (fun w3 => f_X6_remembers_b49 w3)) else (if inb (x1 + (395 : Int32)) 1975 = true then (if inb x1 1975 = true then (wput w 3 (x1).toNatClampNeg (w.1 3 (x1 + (395 : Int32)).toNatClampNeg) (fun w4 => f_X6_remembers_b10 n (x1 + 1) w4)) else none) else none)
set_option maxRecDepth 100000 in
set_option maxHeartbeats 4000000 in
theorem wk_X6_remembers_b10 (Z : CSp)   : ∀ (n : Nat) (x1 : Int32) (w : Wd), Wm (EM Z) MX6_remembers oVw w 10 [(0, Value.ref (aC Z 0)), (1, Value.int x1)] [] (f_X6_remembers_b10  n x1 w) := by
  intro n
  induction n with
  | zero =>
    intro x1 w
    exact r_none
  | succ n ih =>
    intro x1 w
    rw [f_X6_remembers_b10]
    refine r_iload_n dX6_remembers_10 1 rfl ?_
    refine r_sipush (v := 1580) dX6_remembers_11 (by decide) ?_
    refine r_icmp_ge (tgt := 39) dX6_remembers_14 (by decide) (fun _ => ?_) (fun _ => ?_)
    · refine r_aload_n dX6_remembers_39 0 rfl ?_
      refine r_dup dX6_remembers_40 rfl ?_
      refine r_get FX6 3 (Nat.le_of_ble_eq_true rfl) kf_X6_46 0 (qM_0 Z w) rfl dX6_remembers_41 ?_
      refine r_iconst (v := 1) dX6_remembers_44 (by decide) ?_
      refine r_isub dX6_remembers_45 ?_
      refine r_puti FX6 tyX6_ok nmX6 kf_X6_46 (qM_0 Z w) ⟨(Nat.le_of_ble_eq_true rfl), (Nat.le_of_ble_eq_true rfl), rfl⟩ (by decide) (uM_0_3 Z w ((w.1 0 3) - (1 : Int32))) dX6_remembers_46 (fun w3 => ?_)
      refine r_lv [0] rfl ?_
      exact wk_X6_remembers_b49 Z w3
    · refine r_aload_n dX6_remembers_17 0 rfl ?_
      refine r_get FX6 2 (Nat.le_of_ble_eq_true rfl) kf_X6_16 0 (qM_0 Z w) rfl dX6_remembers_18 ?_
      refine r_iload_n dX6_remembers_21 1 rfl ?_
      refine r_aload_n dX6_remembers_22 0 rfl ?_
      refine r_get FX6 2 (Nat.le_of_ble_eq_true rfl) kf_X6_16 0 (qM_0 Z w) rfl dX6_remembers_23 ?_
      refine r_iload_n dX6_remembers_26 1 rfl ?_
      refine r_sipush (v := 395) dX6_remembers_27 (by decide) ?_
      refine r_iadd dX6_remembers_30 ?_
      refine r_iald 3 (qM_3 Z w) rfl dX6_remembers_31 ?_
      refine r_iast (qM_3 Z w) rfl (uM_3 Z w (w.1 3 (x1 + (395 : Int32)).toNatClampNeg)) dX6_remembers_32 (fun w4 => ?_)
      refine r_iinc (lv' := [(0, Value.ref (aC Z 0)), (1, Value.int (x1 + 1))]) dX6_remembers_33 1 rfl (by rfl) (Nat.le_of_ble_eq_true rfl) [1, 0] rfl ?_
      refine r_goto (tgt := 10) dX6_remembers_36 (by decide) ?_
      exact ih (x1 + 1) w4
def f_X6_remembers (w : Wd) : Option (Wd) :=
  if (w.1 0 3) = (5 : Int32) then (f_X6_remembers_b10 FUEL (0 : Int32) w) else (f_X6_remembers_b49 w)
set_option maxRecDepth 100000 in
set_option maxHeartbeats 4000000 in
theorem wk_X6_remembers (Z : CSp) (w : Wd)   : Wm (EM Z) MX6_remembers oVw w 0 [(0, Value.ref (aC Z 0))] [] (f_X6_remembers w) := by
  unfold f_X6_remembers
  refine r_aload_n dX6_remembers_0 0 rfl ?_
  refine r_get FX6 3 (Nat.le_of_ble_eq_true rfl) kf_X6_46 0 (qM_0 Z w) rfl dX6_remembers_1 ?_
  refine r_iconst (v := 5) dX6_remembers_4 (by decide) ?_
  refine r_icmp_ne (tgt := 49) dX6_remembers_5 (by decide) (fun _ => ?_) (fun _ => ?_)
  · exact wk_X6_remembers_b49 Z w
  · refine r_iconst (v := 0) dX6_remembers_8 (by decide) ?_
    refine r_istore_n (lv' := [(0, Value.ref (aC Z 0)), (1, Value.int (0 : Int32))]) dX6_remembers_9 (Nat.le_of_ble_eq_true rfl) [1, 0] rfl ?_
    exact wk_X6_remembers_b10 Z FUEL (0 : Int32) w
theorem m_X6_remembers (Z : CSp) (w : Wd)  : MetM (EM Z) yX6_remembers cX6_remembers 2 none { frames := 0, cells := 0, slots := 0, locals := 0 } oVw [Value.ref (aC Z 0)] w (f_X6_remembers w) := MetM_of (plainFor_of_name (by decide)) (Nat.le_of_ble_eq_true rfl) (wk_X6_remembers Z w )
abbrev MX6_finished : Mt := (cX6_finished, RX6, 2, some .int, { frames := 1, cells := 0, slots := 0, locals := 21 })
def f_X6_finished (x1 : Int32) (w : Wd) : Option (Int32 × Wd) :=
  if x1 = (-10002 : Int32) then ((f_X6_bad w).bind (fun z2 => some (z2.1, z2.2))) else ((f_X6_remembers w).bind (fun w1 => some (x1, w1)))
set_option maxRecDepth 100000 in
set_option maxHeartbeats 4000000 in
theorem wk_X6_finished (Z : CSp) (w : Wd) (x1 : Int32)  : Wm (EM Z) MX6_finished oIw w 0 [(0, Value.ref (aC Z 0)), (1, Value.int x1)] [] (f_X6_finished x1 w) := by
  unfold f_X6_finished
  refine r_iload_n dX6_finished_0 1 rfl ?_
  refine r_sipush (v := -10002) dX6_finished_1 (by decide) ?_
  refine r_icmp_ne (tgt := 12) dX6_finished_4 (by decide) (fun _ => ?_) (fun _ => ?_)
  · refine r_aload_n dX6_finished_12 0 rfl ?_
    refine r_callV_Vw [] cfX6_remembers (m_X6_remembers Z w) km_X6_57 ⟨rfl, rfl, (Nat.le_of_ble_eq_true rfl), (Nat.le_of_ble_eq_true rfl)⟩ rfl rfl 0 (qM_0 Z w) rfl rfl (Nat.le_of_ble_eq_true rfl) dX6_finished_13 (fun w1 => ?_)
    refine r_iload_n dX6_finished_16 1 rfl ?_
    exact r_iretw rfl dX6_finished_17
  · refine r_aload_n dX6_finished_7 0 rfl ?_
    refine r_callV_Iw [] cfX6_bad (m_X6_bad Z w) km_X6_54 ⟨rfl, rfl, (Nat.le_of_ble_eq_true rfl), (Nat.le_of_ble_eq_true rfl)⟩ rfl rfl 0 (qM_0 Z w) rfl rfl (Nat.le_of_ble_eq_true rfl) dX6_finished_8 (fun z2 => ?_)
    exact r_iretw rfl dX6_finished_11
theorem m_X6_finished (Z : CSp) (w : Wd) (x1 : Int32) : MetM (EM Z) yX6_finished cX6_finished 2 (some .int) { frames := 1, cells := 0, slots := 0, locals := 21 } oIw [Value.ref (aC Z 0), Value.int x1] w (f_X6_finished x1 w) := MetM_of (plainFor_of_name (by decide)) (Nat.le_of_ble_eq_true rfl) (wk_X6_finished Z w x1)
abbrev MX6_laysAside : Mt := (cX6_laysAside, RX6, 2, none, { frames := 0, cells := 0, slots := 0, locals := 0 })
def f_X6_laysAside_b2  : Nat → Int32 → Wd → Option (Wd)
  | 0, _, _ => none
  | n + 1, x1, w =>
  if (395 : Int32) ≤ x1 then (some w) else (if inb x1 395 = true then (if inb x1 395 = true then (wput w 2 (x1).toNatClampNeg (w.1 1 (x1).toNatClampNeg) (fun w2 => f_X6_laysAside_b2 n (x1 + 1) w2)) else none) else none)
set_option maxRecDepth 100000 in
set_option maxHeartbeats 4000000 in
theorem wk_X6_laysAside_b2 (Z : CSp)   : ∀ (n : Nat) (x1 : Int32) (w : Wd), Wm (EM Z) MX6_laysAside oVw w 2 [(0, Value.ref (aC Z 0)), (1, Value.int x1)] [] (f_X6_laysAside_b2  n x1 w) := by
  intro n
  induction n with
  | zero =>
    intro x1 w
    exact r_none
  | succ n ih =>
    intro x1 w
    rw [f_X6_laysAside_b2]
    refine r_iload_n dX6_laysAside_2 1 rfl ?_
    refine r_sipush (v := 395) dX6_laysAside_3 (by decide) ?_
    refine r_icmp_ge (tgt := 27) dX6_laysAside_6 (by decide) (fun _ => ?_) (fun _ => ?_)
    · exact r_vret rfl dX6_laysAside_27
    · refine r_aload_n dX6_laysAside_9 0 rfl ?_
      refine r_get FX6 1 (Nat.le_of_ble_eq_true rfl) kf_X6_13 0 (qM_0 Z w) rfl dX6_laysAside_10 ?_
      refine r_iload_n dX6_laysAside_13 1 rfl ?_
      refine r_aload_n dX6_laysAside_14 0 rfl ?_
      refine r_get FX6 0 (Nat.le_of_ble_eq_true rfl) kf_X6_7 0 (qM_0 Z w) rfl dX6_laysAside_15 ?_
      refine r_iload_n dX6_laysAside_18 1 rfl ?_
      refine r_iald 1 (qM_1 Z w) rfl dX6_laysAside_19 ?_
      refine r_iast (qM_2 Z w) rfl (uM_2 Z w (w.1 1 (x1).toNatClampNeg)) dX6_laysAside_20 (fun w2 => ?_)
      refine r_iinc (lv' := [(0, Value.ref (aC Z 0)), (1, Value.int (x1 + 1))]) dX6_laysAside_21 1 rfl (by rfl) (Nat.le_of_ble_eq_true rfl) [1, 0] rfl ?_
      refine r_goto (tgt := 2) dX6_laysAside_24 (by decide) ?_
      exact ih (x1 + 1) w2
def f_X6_laysAside (w : Wd) : Option (Wd) :=
  f_X6_laysAside_b2 FUEL (0 : Int32) w
set_option maxRecDepth 100000 in
set_option maxHeartbeats 4000000 in
theorem wk_X6_laysAside (Z : CSp) (w : Wd)   : Wm (EM Z) MX6_laysAside oVw w 0 [(0, Value.ref (aC Z 0))] [] (f_X6_laysAside w) := by
  unfold f_X6_laysAside
  refine r_iconst (v := 0) dX6_laysAside_0 (by decide) ?_
  refine r_istore_n (lv' := [(0, Value.ref (aC Z 0)), (1, Value.int (0 : Int32))]) dX6_laysAside_1 (Nat.le_of_ble_eq_true rfl) [1, 0] rfl ?_
  exact wk_X6_laysAside_b2 Z FUEL (0 : Int32) w
theorem m_X6_laysAside (Z : CSp) (w : Wd)  : MetM (EM Z) yX6_laysAside cX6_laysAside 2 none { frames := 0, cells := 0, slots := 0, locals := 0 } oVw [Value.ref (aC Z 0)] w (f_X6_laysAside w) := MetM_of (plainFor_of_name (by decide)) (Nat.le_of_ble_eq_true rfl) (wk_X6_laysAside Z w )
abbrev MX6_putClear : Mt := (cX6_putClear, RX6, 7, some .int, { frames := 2, cells := 0, slots := 0, locals := 45 })
def f_X6_putClear_b55 (x4 : Int32) (x6 : Int32) (s0 : Int32) (s1 : Int32) (k28 : Int32 → Int32 → Wd → Option (Int32 × Wd)) (w : Wd) : Option (Int32 × Wd) :=
  jlet (s1 + s0) (fun y3 => if inb (x4 + x6) 395 = true then (wput w 1 (x4 + x6).toNatClampNeg (0 : Int32) (fun w4 => k28 y3 (x6 + 1) w4)) else none)
set_option maxRecDepth 100000 in
set_option maxHeartbeats 4000000 in
theorem wk_X6_putClear_b55 (Z : CSp) (w : Wd) (x4 : Int32) (x6 : Int32) (s0 : Int32) (s1 : Int32) (k28 : Int32 → Int32 → Wd → Option (Int32 × Wd)) (hk28 : ∀ (x5 : Int32) (x6 : Int32) (w : Wd), Wm (EM Z) MX6_putClear oIw w 28 [(0, Value.ref (aC Z 0)), (4, Value.int x4), (5, Value.int x5), (6, Value.int x6)] [] (k28 x5 x6 w)) : Wm (EM Z) MX6_putClear oIw w 55 [(0, Value.ref (aC Z 0)), (4, Value.int x4), (6, Value.int x6)] [Value.int s0, Value.int s1] (f_X6_putClear_b55 x4 x6 s0 s1 k28 w) := by
  unfold f_X6_putClear_b55
  refine r_iadd dX6_putClear_55 ?_
  refine r_leti (fun y3 => ?_)
  refine r_istore (lv' := [(0, Value.ref (aC Z 0)), (4, Value.int x4), (5, Value.int y3), (6, Value.int x6)]) dX6_putClear_56 (Nat.le_of_ble_eq_true rfl) [1, 2, 0, 3] rfl ?_
  refine r_aload_n dX6_putClear_58 0 rfl ?_
  refine r_get FX6 0 (Nat.le_of_ble_eq_true rfl) kf_X6_7 0 (qM_0 Z w) rfl dX6_putClear_59 ?_
  refine r_iload dX6_putClear_62 1 rfl ?_
  refine r_iload dX6_putClear_64 3 rfl ?_
  refine r_iadd dX6_putClear_66 ?_
  refine r_iconst (v := 0) dX6_putClear_67 (by decide) ?_
  refine r_iast (qM_1 Z w) rfl (uM_1 Z w (0 : Int32)) dX6_putClear_68 (fun w4 => ?_)
  refine r_iinc (lv' := [(0, Value.ref (aC Z 0)), (4, Value.int x4), (5, Value.int y3), (6, Value.int (x6 + 1))]) dX6_putClear_69 3 rfl (by rfl) (Nat.le_of_ble_eq_true rfl) [1, 2, 3, 0] rfl ?_
  refine r_goto (tgt := 28) dX6_putClear_72 (by decide) ?_
  exact hk28 y3 (x6 + 1) w4
def f_X6_putClear_b28 (x4 : Int32) : Nat → Int32 → Int32 → Wd → Option (Int32 × Wd)
  | 0, _, _, _ => none
  | n + 1, x5, x6, w =>
  if (12 : Int32) ≤ x6 then (some (x5, w)) else (if inb (x4 + x6) 395 = true then (if (w.1 1 (x4 + x6).toNatClampNeg) = 0 then (f_X6_putClear_b55 x4 x6 (0 : Int32) x5 (f_X6_putClear_b28 x4 n) w) else (f_X6_putClear_b55 x4 x6 (1 : Int32) x5 (f_X6_putClear_b28 x4 n) w)) else none)
set_option maxRecDepth 100000 in
set_option maxHeartbeats 4000000 in
theorem wk_X6_putClear_b28 (Z : CSp) (x4 : Int32)  : ∀ (n : Nat) (x5 : Int32) (x6 : Int32) (w : Wd), Wm (EM Z) MX6_putClear oIw w 28 [(0, Value.ref (aC Z 0)), (4, Value.int x4), (5, Value.int x5), (6, Value.int x6)] [] (f_X6_putClear_b28 x4 n x5 x6 w) := by
  intro n
  induction n with
  | zero =>
    intro x5 x6 w
    exact r_none
  | succ n ih =>
    intro x5 x6 w
    rw [f_X6_putClear_b28]
    refine r_iload dX6_putClear_28 3 rfl ?_
    refine r_bipush (v := 12) dX6_putClear_30 (by decide) ?_
    refine r_icmp_ge (tgt := 75) dX6_putClear_32 (by decide) (fun _ => ?_) (fun _ => ?_)
    · refine r_iload dX6_putClear_75 2 rfl ?_
      exact r_iretw rfl dX6_putClear_77
    · refine r_iload dX6_putClear_35 2 rfl ?_
      refine r_aload_n dX6_putClear_37 0 rfl ?_
      refine r_get FX6 0 (Nat.le_of_ble_eq_true rfl) kf_X6_7 0 (qM_0 Z w) rfl dX6_putClear_38 ?_
      refine r_iload dX6_putClear_41 1 rfl ?_
      refine r_iload dX6_putClear_43 3 rfl ?_
      refine r_iadd dX6_putClear_45 ?_
      refine r_iald 1 (qM_1 Z w) rfl dX6_putClear_46 ?_
      refine r_if_ne (tgt := 54) dX6_putClear_47 (by decide) (fun _ => ?_) (fun _ => ?_)
      · refine r_iconst (v := 1) dX6_putClear_54 (by decide) ?_
        refine r_lv [0, 1, 3] rfl ?_
        exact wk_X6_putClear_b55 Z w x4 x6 (1 : Int32) x5 _ (ih)
      · refine r_iconst (v := 0) dX6_putClear_50 (by decide) ?_
        refine r_goto (tgt := 55) dX6_putClear_51 (by decide) ?_
        refine r_lv [0, 1, 3] rfl ?_
        exact wk_X6_putClear_b55 Z w x4 x6 (0 : Int32) x5 _ (ih)
def f_X6_putClear (x1 : Int32) (x2 : Int32) (x3 : Int32) (w : Wd) : Option (Int32 × Wd) :=
  (f_X6_isCell x1 x2 x3 w).bind (fun v1 => if v1 = 0 then (some ((-10002 : Int32), w)) else ((f_X6_cellPlace x1 x2 x3).bind (fun v2 => f_X6_putClear_b28 v2 FUEL (0 : Int32) (0 : Int32) w)))
set_option maxRecDepth 100000 in
set_option maxHeartbeats 4000000 in
theorem wk_X6_putClear (Z : CSp) (w : Wd) (x1 : Int32) (x2 : Int32) (x3 : Int32)  : Wm (EM Z) MX6_putClear oIw w 0 [(0, Value.ref (aC Z 0)), (1, Value.int x1), (2, Value.int x2), (3, Value.int x3)] [] (f_X6_putClear x1 x2 x3 w) := by
  unfold f_X6_putClear
  refine r_aload_n dX6_putClear_0 0 rfl ?_
  refine r_iload_n dX6_putClear_1 1 rfl ?_
  refine r_iload_n dX6_putClear_2 2 rfl ?_
  refine r_iload_n dX6_putClear_3 3 rfl ?_
  refine r_callV_I [Value.int x1, Value.int x2, Value.int x3] cfX6_isCell (m_X6_isCell Z w x1 x2 x3) km_X6_69 ⟨rfl, rfl, (Nat.le_of_ble_eq_true rfl), (Nat.le_of_ble_eq_true rfl)⟩ rfl rfl 0 (qM_0 Z w) rfl rfl (Nat.le_of_ble_eq_true rfl) dX6_putClear_4 (fun v1 => ?_)
  refine r_if_ne (tgt := 14) dX6_putClear_7 (by decide) (fun _ => ?_) (fun _ => ?_)
  · refine r_iload_n dX6_putClear_14 1 rfl ?_
    refine r_iload_n dX6_putClear_15 2 rfl ?_
    refine r_iload_n dX6_putClear_16 3 rfl ?_
    refine r_callS_I [Value.int x1, Value.int x2, Value.int x3] cfX6_cellPlace (m_X6_cellPlace Z w x1 x2 x3) km_X6_72 ⟨rfl, rfl, (Nat.le_of_ble_eq_true rfl), (Nat.le_of_ble_eq_true rfl)⟩ rfl rfl (Nat.le_of_ble_eq_true rfl) dX6_putClear_17 (fun v2 => ?_)
    refine r_istore (lv' := [(0, Value.ref (aC Z 0)), (1, Value.int x1), (2, Value.int x2), (3, Value.int x3), (4, Value.int v2)]) dX6_putClear_20 (Nat.le_of_ble_eq_true rfl) [1, 2, 3, 4, 0] rfl ?_
    refine r_iconst (v := 0) dX6_putClear_22 (by decide) ?_
    refine r_istore (lv' := [(0, Value.ref (aC Z 0)), (1, Value.int x1), (2, Value.int x2), (3, Value.int x3), (4, Value.int v2), (5, Value.int (0 : Int32))]) dX6_putClear_23 (Nat.le_of_ble_eq_true rfl) [1, 2, 3, 4, 5, 0] rfl ?_
    refine r_iconst (v := 0) dX6_putClear_25 (by decide) ?_
    refine r_istore (lv' := [(0, Value.ref (aC Z 0)), (1, Value.int x1), (2, Value.int x2), (3, Value.int x3), (4, Value.int v2), (5, Value.int (0 : Int32)), (6, Value.int (0 : Int32))]) dX6_putClear_26 (Nat.le_of_ble_eq_true rfl) [1, 2, 3, 4, 5, 6, 0] rfl ?_
    refine r_lv [0, 4, 5, 6] rfl ?_
    exact wk_X6_putClear_b28 Z v2 FUEL (0 : Int32) (0 : Int32) w
  · refine r_sipush (v := -10002) dX6_putClear_10 (by decide) ?_
    exact r_iretw rfl dX6_putClear_13
theorem m_X6_putClear (Z : CSp) (w : Wd) (x1 : Int32) (x2 : Int32) (x3 : Int32) : MetM (EM Z) yX6_putClear cX6_putClear 7 (some .int) { frames := 2, cells := 0, slots := 0, locals := 45 } oIw [Value.ref (aC Z 0), Value.int x1, Value.int x2, Value.int x3] w (f_X6_putClear x1 x2 x3 w) := MetM_of (plainFor_of_name (by decide)) (Nat.le_of_ble_eq_true rfl) (wk_X6_putClear Z w x1 x2 x3)
abbrev MX6_clears : Mt := (cX6_clears, RX6, 4, some .int, { frames := 3, cells := 0, slots := 0, locals := 71 })
def f_X6_clears (x1 : Int32) (x2 : Int32) (x3 : Int32) (w : Wd) : Option (Int32 × Wd) :=
  (f_X6_laysAside w).bind (fun w1 => (f_X6_putClear x1 x2 x3 w1).bind (fun z2 => (f_X6_finished z2.1 z2.2).bind (fun z3 => some (z3.1, z3.2))))
set_option maxRecDepth 100000 in
set_option maxHeartbeats 4000000 in
theorem wk_X6_clears (Z : CSp) (w : Wd) (x1 : Int32) (x2 : Int32) (x3 : Int32)  : Wm (EM Z) MX6_clears oIw w 0 [(0, Value.ref (aC Z 0)), (1, Value.int x1), (2, Value.int x2), (3, Value.int x3)] [] (f_X6_clears x1 x2 x3 w) := by
  unfold f_X6_clears
  refine r_aload_n dX6_clears_0 0 rfl ?_
  refine r_callV_Vw [] cfX6_laysAside (m_X6_laysAside Z w) km_X6_89 ⟨rfl, rfl, (Nat.le_of_ble_eq_true rfl), (Nat.le_of_ble_eq_true rfl)⟩ rfl rfl 0 (qM_0 Z w) rfl rfl (Nat.le_of_ble_eq_true rfl) dX6_clears_1 (fun w1 => ?_)
  refine r_aload_n dX6_clears_4 0 rfl ?_
  refine r_aload_n dX6_clears_5 0 rfl ?_
  refine r_iload_n dX6_clears_6 1 rfl ?_
  refine r_iload_n dX6_clears_7 2 rfl ?_
  refine r_iload_n dX6_clears_8 3 rfl ?_
  refine r_callV_Iw [Value.int x1, Value.int x2, Value.int x3] cfX6_putClear (m_X6_putClear Z w1 x1 x2 x3) km_X6_115 ⟨rfl, rfl, (Nat.le_of_ble_eq_true rfl), (Nat.le_of_ble_eq_true rfl)⟩ rfl rfl 0 (qM_0 Z w1) rfl rfl (Nat.le_of_ble_eq_true rfl) dX6_clears_9 (fun z2 => ?_)
  refine r_callV_Iw [Value.int z2.1] cfX6_finished (m_X6_finished Z z2.2 z2.1) km_X6_95 ⟨rfl, rfl, (Nat.le_of_ble_eq_true rfl), (Nat.le_of_ble_eq_true rfl)⟩ rfl rfl 0 (qM_0 Z z2.2) rfl rfl (Nat.le_of_ble_eq_true rfl) dX6_clears_12 (fun z3 => ?_)
  exact r_iretw rfl dX6_clears_15
theorem m_X6_clears (Z : CSp) (w : Wd) (x1 : Int32) (x2 : Int32) (x3 : Int32) : MetM (EM Z) yX6_clears cX6_clears 4 (some .int) { frames := 3, cells := 0, slots := 0, locals := 71 } oIw [Value.ref (aC Z 0), Value.int x1, Value.int x2, Value.int x3] w (f_X6_clears x1 x2 x3 w) := MetM_of (plainFor_of_name (by decide)) (Nat.le_of_ble_eq_true rfl) (wk_X6_clears Z w x1 x2 x3)
abbrev MX6_looksAtAll : Mt := (cX6_looksAtAll, RX6, 4, none, { frames := 5, cells := 0, slots := 0, locals := 111 })
def f_X6_looksAtAll_b14 (x1 : Int32) (x2 : Int32) (k2 : Int32 → Wd → Option (Wd)) : Nat → Int32 → Wd → Option (Wd)
  | 0, _, _ => none
  | n + 1, x3, w =>
  if inb (0 : Int32) 395 = true then (if (w.1 1 ((0 : Int32)).toNatClampNeg) ≤ x3 then (k2 (x2 + 1) w) else ((f_X6_cellPlace x1 x3 x2).bind (fun v7 => (f_X6_looksAt v7 w).bind (fun w8 => if inb (((4 : Int32) * x2) + x3) 16 = true then (wput w8 7 (((4 : Int32) * x2) + x3).toNatClampNeg (w8.1 0 7) (fun w9 => if inb (((4 : Int32) * x2) + x3) 16 = true then (wput w9 8 (((4 : Int32) * x2) + x3).toNatClampNeg (w9.1 0 8) (fun w10 => if inb (((4 : Int32) * x2) + x3) 16 = true then (wput w10 9 (((4 : Int32) * x2) + x3).toNatClampNeg (w10.1 0 9) (fun w11 => if inb (((4 : Int32) * x2) + x3) 16 = true then (wput w11 10 (((4 : Int32) * x2) + x3).toNatClampNeg (w11.1 0 10) (fun w12 => f_X6_looksAtAll_b14 x1 x2 k2 n (x3 + 1) w12)) else none)) else none)) else none)) else none)))) else none
set_option maxRecDepth 100000 in
set_option maxHeartbeats 4000000 in
theorem wk_X6_looksAtAll_b14 (Z : CSp) (x1 : Int32) (x2 : Int32) (k2 : Int32 → Wd → Option (Wd)) (hk2 : ∀ (x2 : Int32) (w : Wd), Wm (EM Z) MX6_looksAtAll oVw w 2 [(0, Value.ref (aC Z 0)), (1, Value.int x1), (2, Value.int x2)] [] (k2 x2 w)) : ∀ (n : Nat) (x3 : Int32) (w : Wd), Wm (EM Z) MX6_looksAtAll oVw w 14 [(0, Value.ref (aC Z 0)), (1, Value.int x1), (2, Value.int x2), (3, Value.int x3)] [] (f_X6_looksAtAll_b14 x1 x2 k2 n x3 w) := by
  intro n
  induction n with
  | zero =>
    intro x3 w
    exact r_none
  | succ n ih =>
    intro x3 w
    rw [f_X6_looksAtAll_b14]
    refine r_iload_n dX6_looksAtAll_14 3 rfl ?_
    refine r_aload_n dX6_looksAtAll_15 0 rfl ?_
    refine r_get FX6 0 (Nat.le_of_ble_eq_true rfl) kf_X6_7 0 (qM_0 Z w) rfl dX6_looksAtAll_16 ?_
    refine r_iconst (v := 0) dX6_looksAtAll_19 (by decide) ?_
    refine r_iald 1 (qM_1 Z w) rfl dX6_looksAtAll_20 ?_
    refine r_icmp_ge (tgt := 96) dX6_looksAtAll_21 (by decide) (fun _ => ?_) (fun _ => ?_)
    · refine r_iinc (lv' := [(0, Value.ref (aC Z 0)), (1, Value.int x1), (2, Value.int (x2 + 1)), (3, Value.int x3)]) dX6_looksAtAll_96 2 rfl (by rfl) (Nat.le_of_ble_eq_true rfl) [1, 2, 0, 3] rfl ?_
      refine r_goto (tgt := 2) dX6_looksAtAll_99 (by decide) ?_
      refine r_lv [0, 1, 2] rfl ?_
      exact hk2 (x2 + 1) w
    · refine r_aload_n dX6_looksAtAll_24 0 rfl ?_
      refine r_iload_n dX6_looksAtAll_25 1 rfl ?_
      refine r_iload_n dX6_looksAtAll_26 3 rfl ?_
      refine r_iload_n dX6_looksAtAll_27 2 rfl ?_
      refine r_callS_I [Value.int x1, Value.int x3, Value.int x2] cfX6_cellPlace (m_X6_cellPlace Z w x1 x3 x2) km_X6_72 ⟨rfl, rfl, (Nat.le_of_ble_eq_true rfl), (Nat.le_of_ble_eq_true rfl)⟩ rfl rfl (Nat.le_of_ble_eq_true rfl) dX6_looksAtAll_28 (fun v7 => ?_)
      refine r_callV_Vw [Value.int v7] cfX6_looksAt (m_X6_looksAt Z w v7) km_X6_187 ⟨rfl, rfl, (Nat.le_of_ble_eq_true rfl), (Nat.le_of_ble_eq_true rfl)⟩ rfl rfl 0 (qM_0 Z w) rfl rfl (Nat.le_of_ble_eq_true rfl) dX6_looksAtAll_31 (fun w8 => ?_)
      refine r_aload_n dX6_looksAtAll_34 0 rfl ?_
      refine r_get FX6 14 (Nat.le_of_ble_eq_true rfl) kf_X6_28 0 (qM_0 Z w8) rfl dX6_looksAtAll_35 ?_
      refine r_iconst (v := 4) dX6_looksAtAll_38 (by decide) ?_
      refine r_iload_n dX6_looksAtAll_39 2 rfl ?_
      refine r_imul dX6_looksAtAll_40 ?_
      refine r_iload_n dX6_looksAtAll_41 3 rfl ?_
      refine r_iadd dX6_looksAtAll_42 ?_
      refine r_aload_n dX6_looksAtAll_43 0 rfl ?_
      refine r_get FX6 7 (Nat.le_of_ble_eq_true rfl) kf_X6_174 0 (qM_0 Z w8) rfl dX6_looksAtAll_44 ?_
      refine r_iast (qM_7 Z w8) rfl (uM_7 Z w8 (w8.1 0 7)) dX6_looksAtAll_47 (fun w9 => ?_)
      refine r_aload_n dX6_looksAtAll_48 0 rfl ?_
      refine r_get FX6 15 (Nat.le_of_ble_eq_true rfl) kf_X6_31 0 (qM_0 Z w9) rfl dX6_looksAtAll_49 ?_
      refine r_iconst (v := 4) dX6_looksAtAll_52 (by decide) ?_
      refine r_iload_n dX6_looksAtAll_53 2 rfl ?_
      refine r_imul dX6_looksAtAll_54 ?_
      refine r_iload_n dX6_looksAtAll_55 3 rfl ?_
      refine r_iadd dX6_looksAtAll_56 ?_
      refine r_aload_n dX6_looksAtAll_57 0 rfl ?_
      refine r_get FX6 8 (Nat.le_of_ble_eq_true rfl) kf_X6_167 0 (qM_0 Z w9) rfl dX6_looksAtAll_58 ?_
      refine r_iast (qM_8 Z w9) rfl (uM_8 Z w9 (w9.1 0 8)) dX6_looksAtAll_61 (fun w10 => ?_)
      refine r_aload_n dX6_looksAtAll_62 0 rfl ?_
      refine r_get FX6 16 (Nat.le_of_ble_eq_true rfl) kf_X6_34 0 (qM_0 Z w10) rfl dX6_looksAtAll_63 ?_
      refine r_iconst (v := 4) dX6_looksAtAll_66 (by decide) ?_
      refine r_iload_n dX6_looksAtAll_67 2 rfl ?_
      refine r_imul dX6_looksAtAll_68 ?_
      refine r_iload_n dX6_looksAtAll_69 3 rfl ?_
      refine r_iadd dX6_looksAtAll_70 ?_
      refine r_aload_n dX6_looksAtAll_71 0 rfl ?_
      refine r_get FX6 9 (Nat.le_of_ble_eq_true rfl) kf_X6_161 0 (qM_0 Z w10) rfl dX6_looksAtAll_72 ?_
      refine r_iast (qM_9 Z w10) rfl (uM_9 Z w10 (w10.1 0 9)) dX6_looksAtAll_75 (fun w11 => ?_)
      refine r_aload_n dX6_looksAtAll_76 0 rfl ?_
      refine r_get FX6 17 (Nat.le_of_ble_eq_true rfl) kf_X6_37 0 (qM_0 Z w11) rfl dX6_looksAtAll_77 ?_
      refine r_iconst (v := 4) dX6_looksAtAll_80 (by decide) ?_
      refine r_iload_n dX6_looksAtAll_81 2 rfl ?_
      refine r_imul dX6_looksAtAll_82 ?_
      refine r_iload_n dX6_looksAtAll_83 3 rfl ?_
      refine r_iadd dX6_looksAtAll_84 ?_
      refine r_aload_n dX6_looksAtAll_85 0 rfl ?_
      refine r_get FX6 10 (Nat.le_of_ble_eq_true rfl) kf_X6_164 0 (qM_0 Z w11) rfl dX6_looksAtAll_86 ?_
      refine r_iast (qM_10 Z w11) rfl (uM_10 Z w11 (w11.1 0 10)) dX6_looksAtAll_89 (fun w12 => ?_)
      refine r_iinc (lv' := [(0, Value.ref (aC Z 0)), (1, Value.int x1), (2, Value.int x2), (3, Value.int (x3 + 1))]) dX6_looksAtAll_90 3 rfl (by rfl) (Nat.le_of_ble_eq_true rfl) [1, 2, 3, 0] rfl ?_
      refine r_goto (tgt := 14) dX6_looksAtAll_93 (by decide) ?_
      exact ih (x3 + 1) w12
def f_X6_looksAtAll_b2 (x1 : Int32) : Nat → Int32 → Wd → Option (Wd)
  | 0, _, _ => none
  | n + 1, x2, w =>
  if inb (1 : Int32) 395 = true then (if (w.1 1 ((1 : Int32)).toNatClampNeg) ≤ x2 then (some w) else (f_X6_looksAtAll_b14 x1 x2 (f_X6_looksAtAll_b2 x1 n) FUEL (0 : Int32) w)) else none
set_option maxRecDepth 100000 in
set_option maxHeartbeats 4000000 in
theorem wk_X6_looksAtAll_b2 (Z : CSp) (x1 : Int32)  : ∀ (n : Nat) (x2 : Int32) (w : Wd), Wm (EM Z) MX6_looksAtAll oVw w 2 [(0, Value.ref (aC Z 0)), (1, Value.int x1), (2, Value.int x2)] [] (f_X6_looksAtAll_b2 x1 n x2 w) := by
  intro n
  induction n with
  | zero =>
    intro x2 w
    exact r_none
  | succ n ih =>
    intro x2 w
    rw [f_X6_looksAtAll_b2]
    refine r_iload_n dX6_looksAtAll_2 2 rfl ?_
    refine r_aload_n dX6_looksAtAll_3 0 rfl ?_
    refine r_get FX6 0 (Nat.le_of_ble_eq_true rfl) kf_X6_7 0 (qM_0 Z w) rfl dX6_looksAtAll_4 ?_
    refine r_iconst (v := 1) dX6_looksAtAll_7 (by decide) ?_
    refine r_iald 1 (qM_1 Z w) rfl dX6_looksAtAll_8 ?_
    refine r_icmp_ge (tgt := 102) dX6_looksAtAll_9 (by decide) (fun _ => ?_) (fun _ => ?_)
    · exact r_vret rfl dX6_looksAtAll_102
    · refine r_iconst (v := 0) dX6_looksAtAll_12 (by decide) ?_
      refine r_istore_n (lv' := [(0, Value.ref (aC Z 0)), (1, Value.int x1), (2, Value.int x2), (3, Value.int (0 : Int32))]) dX6_looksAtAll_13 (Nat.le_of_ble_eq_true rfl) [1, 2, 3, 0] rfl ?_
      exact wk_X6_looksAtAll_b14 Z x1 x2 _ (ih) FUEL (0 : Int32) w
def f_X6_looksAtAll (x1 : Int32) (w : Wd) : Option (Wd) :=
  f_X6_looksAtAll_b2 x1 FUEL (0 : Int32) w
set_option maxRecDepth 100000 in
set_option maxHeartbeats 4000000 in
theorem wk_X6_looksAtAll (Z : CSp) (w : Wd) (x1 : Int32)  : Wm (EM Z) MX6_looksAtAll oVw w 0 [(0, Value.ref (aC Z 0)), (1, Value.int x1)] [] (f_X6_looksAtAll x1 w) := by
  unfold f_X6_looksAtAll
  refine r_iconst (v := 0) dX6_looksAtAll_0 (by decide) ?_
  refine r_istore_n (lv' := [(0, Value.ref (aC Z 0)), (1, Value.int x1), (2, Value.int (0 : Int32))]) dX6_looksAtAll_1 (Nat.le_of_ble_eq_true rfl) [1, 2, 0] rfl ?_
  exact wk_X6_looksAtAll_b2 Z x1 FUEL (0 : Int32) w
theorem m_X6_looksAtAll (Z : CSp) (w : Wd) (x1 : Int32) : MetM (EM Z) yX6_looksAtAll cX6_looksAtAll 4 none { frames := 5, cells := 0, slots := 0, locals := 111 } oVw [Value.ref (aC Z 0), Value.int x1] w (f_X6_looksAtAll x1 w) := MetM_of (plainFor_of_name (by decide)) (Nat.le_of_ble_eq_true rfl) (wk_X6_looksAtAll Z w x1)
abbrev MX6_meanOf : Mt := (cX6_meanOf, RX6, 7, some .long, { frames := 6, cells := 0, slots := 0, locals := 134 })
def f_X6_meanOf_b121 (s0 : UInt64) (w : Wd) : Option (Int64 × Wd) :=
  (f_Jxe99ae_doubleToLongBits_ccdee s0).bind (fun v2 => some (v2, w))
set_option maxRecDepth 100000 in
set_option maxHeartbeats 4000000 in
theorem wk_X6_meanOf_b121 (Z : CSp) (w : Wd) (s0 : UInt64)  : Wm (EM Z) MX6_meanOf oLw w 121 [] [Value.double s0] (f_X6_meanOf_b121 s0 w) := by
  unfold f_X6_meanOf_b121
  refine r_callS_L [Value.double s0] cfJxe99ae_doubleToLongBits_ccdee (m_Jxe99ae_doubleToLongBits_ccdee Z w s0) km_X6_217 ⟨rfl, rfl, (Nat.le_of_ble_eq_true rfl), (Nat.le_of_ble_eq_true rfl)⟩ rfl rfl (Nat.le_of_ble_eq_true rfl) dX6_meanOf_121 (fun v2 => ?_)
  exact r_lretw rfl dX6_meanOf_124
def f_X6_meanOf_b94 (x2 : Int32) (x4 : Int32) (x5 : Int32) (s0 : Int32) (s1 : Int32) (k26 : Int32 → Int32 → Int32 → Wd → Option (Int64 × Wd)) (w : Wd) : Option (Int64 × Wd) :=
  jlet (s1 + s0) (fun y2 => k26 x2 y2 (x5 + 1) w)
set_option maxRecDepth 100000 in
set_option maxHeartbeats 4000000 in
theorem wk_X6_meanOf_b94 (Z : CSp) (w : Wd) (x2 : Int32) (x4 : Int32) (x5 : Int32) (s0 : Int32) (s1 : Int32) (k26 : Int32 → Int32 → Int32 → Wd → Option (Int64 × Wd)) (hk26 : ∀ (x2 : Int32) (x3 : Int32) (x5 : Int32) (w : Wd), Wm (EM Z) MX6_meanOf oLw w 26 [(0, Value.ref (aC Z 0)), (2, Value.int x2), (3, Value.int x3), (4, Value.int x4), (5, Value.int x5)] [] (k26 x2 x3 x5 w)) : Wm (EM Z) MX6_meanOf oLw w 94 [(0, Value.ref (aC Z 0)), (2, Value.int x2), (4, Value.int x4), (5, Value.int x5)] [Value.int s0, Value.int s1] (f_X6_meanOf_b94 x2 x4 x5 s0 s1 k26 w) := by
  unfold f_X6_meanOf_b94
  refine r_iadd dX6_meanOf_94 ?_
  refine r_leti (fun y2 => ?_)
  refine r_istore_n (lv' := [(0, Value.ref (aC Z 0)), (2, Value.int x2), (3, Value.int y2), (4, Value.int x4), (5, Value.int x5)]) dX6_meanOf_95 (Nat.le_of_ble_eq_true rfl) [1, 2, 0, 3, 4] rfl ?_
  refine r_iinc (lv' := [(0, Value.ref (aC Z 0)), (2, Value.int x2), (3, Value.int y2), (4, Value.int x4), (5, Value.int (x5 + 1))]) dX6_meanOf_96 4 rfl (by rfl) (Nat.le_of_ble_eq_true rfl) [1, 2, 3, 4, 0] rfl ?_
  refine r_goto (tgt := 26) dX6_meanOf_99 (by decide) ?_
  exact hk26 x2 y2 (x5 + 1) w
def f_X6_meanOf_b81 (x3 : Int32) (x4 : Int32) (x5 : Int32) (x6 : Int32) (s0 : Int32) (s1 : Int32) (k26 : Int32 → Int32 → Int32 → Wd → Option (Int64 × Wd)) (w : Wd) : Option (Int64 × Wd) :=
  jlet (s1 + s0) (fun y2 => if x6 = 0 then (f_X6_meanOf_b94 y2 x4 x5 (0 : Int32) x3 k26 w) else (f_X6_meanOf_b94 y2 x4 x5 (1 : Int32) x3 k26 w))
set_option maxRecDepth 100000 in
set_option maxHeartbeats 4000000 in
theorem wk_X6_meanOf_b81 (Z : CSp) (w : Wd) (x3 : Int32) (x4 : Int32) (x5 : Int32) (x6 : Int32) (s0 : Int32) (s1 : Int32) (k26 : Int32 → Int32 → Int32 → Wd → Option (Int64 × Wd)) (hk26 : ∀ (x2 : Int32) (x3 : Int32) (x5 : Int32) (w : Wd), Wm (EM Z) MX6_meanOf oLw w 26 [(0, Value.ref (aC Z 0)), (2, Value.int x2), (3, Value.int x3), (4, Value.int x4), (5, Value.int x5)] [] (k26 x2 x3 x5 w)) : Wm (EM Z) MX6_meanOf oLw w 81 [(0, Value.ref (aC Z 0)), (3, Value.int x3), (4, Value.int x4), (5, Value.int x5), (6, Value.int x6)] [Value.int s0, Value.int s1] (f_X6_meanOf_b81 x3 x4 x5 x6 s0 s1 k26 w) := by
  unfold f_X6_meanOf_b81
  refine r_iadd dX6_meanOf_81 ?_
  refine r_leti (fun y2 => ?_)
  refine r_istore_n (lv' := [(0, Value.ref (aC Z 0)), (2, Value.int y2), (3, Value.int x3), (4, Value.int x4), (5, Value.int x5), (6, Value.int x6)]) dX6_meanOf_82 (Nat.le_of_ble_eq_true rfl) [1, 0, 2, 3, 4, 5] rfl ?_
  refine r_iload_n dX6_meanOf_83 2 rfl ?_
  refine r_iload dX6_meanOf_84 5 rfl ?_
  refine r_if_eq (tgt := 93) dX6_meanOf_86 (by decide) (fun _ => ?_) (fun _ => ?_)
  · refine r_iconst (v := 0) dX6_meanOf_93 (by decide) ?_
    refine r_lv [0, 1, 3, 4] rfl ?_
    exact wk_X6_meanOf_b94 Z w y2 x4 x5 (0 : Int32) x3 k26 hk26
  · refine r_iconst (v := 1) dX6_meanOf_89 (by decide) ?_
    refine r_goto (tgt := 94) dX6_meanOf_90 (by decide) ?_
    refine r_lv [0, 1, 3, 4] rfl ?_
    exact wk_X6_meanOf_b94 Z w y2 x4 x5 (1 : Int32) x3 k26 hk26
def f_X6_meanOf_b57 (x2 : Int32) (x3 : Int32) (x4 : Int32) (x5 : Int32) (s0 : Int32) (k26 : Int32 → Int32 → Int32 → Wd → Option (Int64 × Wd)) (w : Wd) : Option (Int64 × Wd) :=
  if s0 = 0 then (f_X6_meanOf_b81 x3 x4 x5 s0 (0 : Int32) x2 k26 w) else (if inb (((4 : Int32) * x4) + x5) 16 = true then (f_X6_meanOf_b81 x3 x4 x5 s0 (w.1 8 (((4 : Int32) * x4) + x5).toNatClampNeg) x2 k26 w) else none)
set_option maxRecDepth 100000 in
set_option maxHeartbeats 4000000 in
theorem wk_X6_meanOf_b57 (Z : CSp) (w : Wd) (x2 : Int32) (x3 : Int32) (x4 : Int32) (x5 : Int32) (s0 : Int32) (k26 : Int32 → Int32 → Int32 → Wd → Option (Int64 × Wd)) (hk26 : ∀ (x2 : Int32) (x3 : Int32) (x5 : Int32) (w : Wd), Wm (EM Z) MX6_meanOf oLw w 26 [(0, Value.ref (aC Z 0)), (2, Value.int x2), (3, Value.int x3), (4, Value.int x4), (5, Value.int x5)] [] (k26 x2 x3 x5 w)) : Wm (EM Z) MX6_meanOf oLw w 57 [(0, Value.ref (aC Z 0)), (2, Value.int x2), (3, Value.int x3), (4, Value.int x4), (5, Value.int x5)] [Value.int s0] (f_X6_meanOf_b57 x2 x3 x4 x5 s0 k26 w) := by
  unfold f_X6_meanOf_b57
  refine r_istore (lv' := [(0, Value.ref (aC Z 0)), (2, Value.int x2), (3, Value.int x3), (4, Value.int x4), (5, Value.int x5), (6, Value.int s0)]) dX6_meanOf_57 (Nat.le_of_ble_eq_true rfl) [1, 2, 3, 4, 5, 0] rfl ?_
  refine r_iload_n dX6_meanOf_59 1 rfl ?_
  refine r_iload dX6_meanOf_60 5 rfl ?_
  refine r_if_eq (tgt := 80) dX6_meanOf_62 (by decide) (fun _ => ?_) (fun _ => ?_)
  · refine r_iconst (v := 0) dX6_meanOf_80 (by decide) ?_
    refine r_lv [0, 2, 3, 4, 5] rfl ?_
    exact wk_X6_meanOf_b81 Z w x3 x4 x5 s0 (0 : Int32) x2 k26 hk26
  · refine r_aload_n dX6_meanOf_65 0 rfl ?_
    refine r_get FX6 15 (Nat.le_of_ble_eq_true rfl) kf_X6_31 0 (qM_0 Z w) rfl dX6_meanOf_66 ?_
    refine r_iconst (v := 4) dX6_meanOf_69 (by decide) ?_
    refine r_iload dX6_meanOf_70 3 rfl ?_
    refine r_imul dX6_meanOf_72 ?_
    refine r_iload dX6_meanOf_73 4 rfl ?_
    refine r_iadd dX6_meanOf_75 ?_
    refine r_iald 8 (qM_8 Z w) rfl dX6_meanOf_76 ?_
    refine r_goto (tgt := 81) dX6_meanOf_77 (by decide) ?_
    refine r_lv [0, 2, 3, 4, 5] rfl ?_
    exact wk_X6_meanOf_b81 Z w x3 x4 x5 s0 (w.1 8 (((4 : Int32) * x4) + x5).toNatClampNeg) x2 k26 hk26
def f_X6_meanOf_b26 (x4 : Int32) (k12 : Int32 → Int32 → Int32 → Wd → Option (Int64 × Wd)) : Nat → Int32 → Int32 → Int32 → Wd → Option (Int64 × Wd)
  | 0, _, _, _, _ => none
  | n + 1, x2, x3, x5, w =>
  if inb (0 : Int32) 395 = true then (if (w.1 1 ((0 : Int32)).toNatClampNeg) ≤ x5 then (k12 x2 x3 (x4 + 1) w) else (if inb (((4 : Int32) * x4) + x5) 16 = true then (if (w.1 7 (((4 : Int32) * x4) + x5).toNatClampNeg) = 0 then (f_X6_meanOf_b57 x2 x3 x4 x5 (1 : Int32) (f_X6_meanOf_b26 x4 k12 n) w) else (f_X6_meanOf_b57 x2 x3 x4 x5 (0 : Int32) (f_X6_meanOf_b26 x4 k12 n) w)) else none)) else none
set_option maxRecDepth 100000 in
set_option maxHeartbeats 4000000 in
theorem wk_X6_meanOf_b26 (Z : CSp) (x4 : Int32) (k12 : Int32 → Int32 → Int32 → Wd → Option (Int64 × Wd)) (hk12 : ∀ (x2 : Int32) (x3 : Int32) (x4 : Int32) (w : Wd), Wm (EM Z) MX6_meanOf oLw w 12 [(0, Value.ref (aC Z 0)), (2, Value.int x2), (3, Value.int x3), (4, Value.int x4)] [] (k12 x2 x3 x4 w)) : ∀ (n : Nat) (x2 : Int32) (x3 : Int32) (x5 : Int32) (w : Wd), Wm (EM Z) MX6_meanOf oLw w 26 [(0, Value.ref (aC Z 0)), (2, Value.int x2), (3, Value.int x3), (4, Value.int x4), (5, Value.int x5)] [] (f_X6_meanOf_b26 x4 k12 n x2 x3 x5 w) := by
  intro n
  induction n with
  | zero =>
    intro x2 x3 x5 w
    exact r_none
  | succ n ih =>
    intro x2 x3 x5 w
    rw [f_X6_meanOf_b26]
    refine r_iload dX6_meanOf_26 4 rfl ?_
    refine r_aload_n dX6_meanOf_28 0 rfl ?_
    refine r_get FX6 0 (Nat.le_of_ble_eq_true rfl) kf_X6_7 0 (qM_0 Z w) rfl dX6_meanOf_29 ?_
    refine r_iconst (v := 0) dX6_meanOf_32 (by decide) ?_
    refine r_iald 1 (qM_1 Z w) rfl dX6_meanOf_33 ?_
    refine r_icmp_ge (tgt := 102) dX6_meanOf_34 (by decide) (fun _ => ?_) (fun _ => ?_)
    · refine r_iinc (lv' := [(0, Value.ref (aC Z 0)), (2, Value.int x2), (3, Value.int x3), (4, Value.int (x4 + 1)), (5, Value.int x5)]) dX6_meanOf_102 3 rfl (by rfl) (Nat.le_of_ble_eq_true rfl) [1, 2, 3, 0, 4] rfl ?_
      refine r_goto (tgt := 12) dX6_meanOf_105 (by decide) ?_
      refine r_lv [0, 1, 2, 3] rfl ?_
      exact hk12 x2 x3 (x4 + 1) w
    · refine r_aload_n dX6_meanOf_37 0 rfl ?_
      refine r_get FX6 14 (Nat.le_of_ble_eq_true rfl) kf_X6_28 0 (qM_0 Z w) rfl dX6_meanOf_38 ?_
      refine r_iconst (v := 4) dX6_meanOf_41 (by decide) ?_
      refine r_iload dX6_meanOf_42 3 rfl ?_
      refine r_imul dX6_meanOf_44 ?_
      refine r_iload dX6_meanOf_45 4 rfl ?_
      refine r_iadd dX6_meanOf_47 ?_
      refine r_iald 7 (qM_7 Z w) rfl dX6_meanOf_48 ?_
      refine r_if_ne (tgt := 56) dX6_meanOf_49 (by decide) (fun _ => ?_) (fun _ => ?_)
      · refine r_iconst (v := 0) dX6_meanOf_56 (by decide) ?_
        exact wk_X6_meanOf_b57 Z w x2 x3 x4 x5 (0 : Int32) _ (ih)
      · refine r_iconst (v := 1) dX6_meanOf_52 (by decide) ?_
        refine r_goto (tgt := 57) dX6_meanOf_53 (by decide) ?_
        exact wk_X6_meanOf_b57 Z w x2 x3 x4 x5 (1 : Int32) _ (ih)
def f_X6_meanOf_b12  : Nat → Int32 → Int32 → Int32 → Wd → Option (Int64 × Wd)
  | 0, _, _, _, _ => none
  | n + 1, x2, x3, x4, w =>
  if inb (1 : Int32) 395 = true then (if (w.1 1 ((1 : Int32)).toNatClampNeg) ≤ x4 then (if x3 = 0 then (f_X6_meanOf_b121 FP.dconst0 w) else (if nn64 (FP.ddiv (FP.i2d x2) (FP.i2d x3)) = true then (f_X6_meanOf_b121 (FP.ddiv (FP.i2d x2) (FP.i2d x3)) w) else none)) else (f_X6_meanOf_b26 x4 (f_X6_meanOf_b12 n) FUEL x2 x3 (0 : Int32) w)) else none
set_option maxRecDepth 100000 in
set_option maxHeartbeats 4000000 in
theorem wk_X6_meanOf_b12 (Z : CSp)   : ∀ (n : Nat) (x2 : Int32) (x3 : Int32) (x4 : Int32) (w : Wd), Wm (EM Z) MX6_meanOf oLw w 12 [(0, Value.ref (aC Z 0)), (2, Value.int x2), (3, Value.int x3), (4, Value.int x4)] [] (f_X6_meanOf_b12  n x2 x3 x4 w) := by
  intro n
  induction n with
  | zero =>
    intro x2 x3 x4 w
    exact r_none
  | succ n ih =>
    intro x2 x3 x4 w
    rw [f_X6_meanOf_b12]
    refine r_iload dX6_meanOf_12 3 rfl ?_
    refine r_aload_n dX6_meanOf_14 0 rfl ?_
    refine r_get FX6 0 (Nat.le_of_ble_eq_true rfl) kf_X6_7 0 (qM_0 Z w) rfl dX6_meanOf_15 ?_
    refine r_iconst (v := 1) dX6_meanOf_18 (by decide) ?_
    refine r_iald 1 (qM_1 Z w) rfl dX6_meanOf_19 ?_
    refine r_icmp_ge (tgt := 108) dX6_meanOf_20 (by decide) (fun _ => ?_) (fun _ => ?_)
    · refine r_iload_n dX6_meanOf_108 2 rfl ?_
      refine r_if_ne (tgt := 116) dX6_meanOf_109 (by decide) (fun _ => ?_) (fun _ => ?_)
      · refine r_iload_n dX6_meanOf_116 1 rfl ?_
        refine r_i2d dX6_meanOf_117 ?_
        refine r_iload_n dX6_meanOf_118 2 rfl ?_
        refine r_i2d dX6_meanOf_119 ?_
        refine r_ddiv dX6_meanOf_120 ?_
        refine r_lv [] rfl ?_
        exact wk_X6_meanOf_b121 Z w (FP.ddiv (FP.i2d x2) (FP.i2d x3))
      · refine r_dconst0 dX6_meanOf_112 ?_
        refine r_goto (tgt := 121) dX6_meanOf_113 (by decide) ?_
        refine r_lv [] rfl ?_
        exact wk_X6_meanOf_b121 Z w FP.dconst0
    · refine r_iconst (v := 0) dX6_meanOf_23 (by decide) ?_
      refine r_istore (lv' := [(0, Value.ref (aC Z 0)), (2, Value.int x2), (3, Value.int x3), (4, Value.int x4), (5, Value.int (0 : Int32))]) dX6_meanOf_24 (Nat.le_of_ble_eq_true rfl) [1, 2, 3, 4, 0] rfl ?_
      exact wk_X6_meanOf_b26 Z x4 _ (ih) FUEL x2 x3 (0 : Int32) w
def f_X6_meanOf (x1 : Int32) (w : Wd) : Option (Int64 × Wd) :=
  (f_X6_looksAtAll x1 w).bind (fun w1 => f_X6_meanOf_b12 FUEL (0 : Int32) (0 : Int32) (0 : Int32) w1)
set_option maxRecDepth 100000 in
set_option maxHeartbeats 4000000 in
theorem wk_X6_meanOf (Z : CSp) (w : Wd) (x1 : Int32)  : Wm (EM Z) MX6_meanOf oLw w 0 [(0, Value.ref (aC Z 0)), (1, Value.int x1)] [] (f_X6_meanOf x1 w) := by
  unfold f_X6_meanOf
  refine r_aload_n dX6_meanOf_0 0 rfl ?_
  refine r_iload_n dX6_meanOf_1 1 rfl ?_
  refine r_callV_Vw [Value.int x1] cfX6_looksAtAll (m_X6_looksAtAll Z w x1) km_X6_214 ⟨rfl, rfl, (Nat.le_of_ble_eq_true rfl), (Nat.le_of_ble_eq_true rfl)⟩ rfl rfl 0 (qM_0 Z w) rfl rfl (Nat.le_of_ble_eq_true rfl) dX6_meanOf_2 (fun w1 => ?_)
  refine r_iconst (v := 0) dX6_meanOf_5 (by decide) ?_
  refine r_istore_n (lv' := [(0, Value.ref (aC Z 0)), (1, Value.int x1), (2, Value.int (0 : Int32))]) dX6_meanOf_6 (Nat.le_of_ble_eq_true rfl) [1, 2, 0] rfl ?_
  refine r_iconst (v := 0) dX6_meanOf_7 (by decide) ?_
  refine r_istore_n (lv' := [(0, Value.ref (aC Z 0)), (1, Value.int x1), (2, Value.int (0 : Int32)), (3, Value.int (0 : Int32))]) dX6_meanOf_8 (Nat.le_of_ble_eq_true rfl) [1, 2, 3, 0] rfl ?_
  refine r_iconst (v := 0) dX6_meanOf_9 (by decide) ?_
  refine r_istore (lv' := [(0, Value.ref (aC Z 0)), (1, Value.int x1), (2, Value.int (0 : Int32)), (3, Value.int (0 : Int32)), (4, Value.int (0 : Int32))]) dX6_meanOf_10 (Nat.le_of_ble_eq_true rfl) [1, 2, 3, 4, 0] rfl ?_
  refine r_lv [0, 2, 3, 4] rfl ?_
  exact wk_X6_meanOf_b12 Z FUEL (0 : Int32) (0 : Int32) (0 : Int32) w1
theorem m_X6_meanOf (Z : CSp) (w : Wd) (x1 : Int32) : MetM (EM Z) yX6_meanOf cX6_meanOf 7 (some .long) { frames := 6, cells := 0, slots := 0, locals := 134 } oLw [Value.ref (aC Z 0), Value.int x1] w (f_X6_meanOf x1 w) := MetM_of (plainFor_of_name (by decide)) (Nat.le_of_ble_eq_true rfl) (wk_X6_meanOf Z w x1)
abbrev MX6_mix : Mt := (cX6_mix, RX6, 3, none, { frames := 0, cells := 0, slots := 0, locals := 0 })
def f_X6_mix (x1 : Int64) (w : Wd) : Option (Wd) :=
  wputl w (((31 : Int64) * w.2) + x1) (fun w1 => some w1)
set_option maxRecDepth 100000 in
set_option maxHeartbeats 4000000 in
theorem wk_X6_mix (Z : CSp) (w : Wd) (x1 : Int64)  : Wm (EM Z) MX6_mix oVw w 0 [(0, Value.ref (aC Z 0)), (1, Value.long x1)] [] (f_X6_mix x1 w) := by
  unfold f_X6_mix
  refine r_aload_n dX6_mix_0 0 rfl ?_
  refine r_ldc2 dX6_mix_1 kk_X6_267 ?_
  refine r_aload_n dX6_mix_4 0 rfl ?_
  refine r_get FX6 26 (Nat.le_of_ble_eq_true rfl) kf_X6_269 0 (qM_0 Z w) rfl dX6_mix_5 ?_
  refine r_lmul dX6_mix_8 ?_
  refine r_lload_n dX6_mix_9 1 rfl ?_
  refine r_ladd dX6_mix_10 ?_
  refine r_putl FX6 tyX6_ok nmX6 kf_X6_269 (qM_0 Z w) ⟨(Nat.le_of_ble_eq_true rfl), (Nat.le_of_ble_eq_true rfl), rfl⟩ (by decide) (uM_0_26 Z w (((31 : Int64) * w.2) + x1)) dX6_mix_11 (fun w1 => ?_)
  exact r_vret rfl dX6_mix_14
theorem m_X6_mix (Z : CSp) (w : Wd) (x1 : Int64) : MetM (EM Z) yX6_mix cX6_mix 3 none { frames := 0, cells := 0, slots := 0, locals := 0 } oVw [Value.ref (aC Z 0), Value.long x1] w (f_X6_mix x1 w) := MetM_of (plainFor_of_name (by decide)) (Nat.le_of_ble_eq_true rfl) (wk_X6_mix Z w x1)
abbrev MX6_mixCells : Mt := (cX6_mixCells, RX6, 6, none, { frames := 7, cells := 0, slots := 0, locals := 161 })
def f_X6_mixCells_b159 (x1 : Int32) (x2 : Int32) (x3 : Int32) (k19 : Int32 → Wd → Option (Wd)) (w : Wd) : Option (Wd) :=
  k19 (x3 + 1) w
set_option maxRecDepth 100000 in
set_option maxHeartbeats 4000000 in
theorem wk_X6_mixCells_b159 (Z : CSp) (w : Wd) (x1 : Int32) (x2 : Int32) (x3 : Int32) (k19 : Int32 → Wd → Option (Wd)) (hk19 : ∀ (x3 : Int32) (w : Wd), Wm (EM Z) MX6_mixCells oVw w 19 [(0, Value.ref (aC Z 0)), (1, Value.int x1), (2, Value.int x2), (3, Value.int x3)] [] (k19 x3 w)) : Wm (EM Z) MX6_mixCells oVw w 159 [(0, Value.ref (aC Z 0)), (1, Value.int x1), (2, Value.int x2), (3, Value.int x3)] [] (f_X6_mixCells_b159 x1 x2 x3 k19 w) := by
  unfold f_X6_mixCells_b159
  refine r_iinc (lv' := [(0, Value.ref (aC Z 0)), (1, Value.int x1), (2, Value.int x2), (3, Value.int (x3 + 1))]) dX6_mixCells_159 3 rfl (by rfl) (Nat.le_of_ble_eq_true rfl) [1, 2, 3, 0] rfl ?_
  refine r_goto (tgt := 19) dX6_mixCells_162 (by decide) ?_
  exact hk19 (x3 + 1) w
def f_X6_mixCells_b147 (x1 : Int32) (x2 : Int32) (x3 : Int32) (k19 : Int32 → Wd → Option (Wd)) (w : Wd) : Option (Wd) :=
  (f_X6_filledOf x1 x3 x2 w).bind (fun z3 => (f_X6_mix ((z3.1).toInt64) z3.2).bind (fun w4 => f_X6_mixCells_b159 x1 x2 x3 k19 w4))
set_option maxRecDepth 100000 in
set_option maxHeartbeats 4000000 in
theorem wk_X6_mixCells_b147 (Z : CSp) (w : Wd) (x1 : Int32) (x2 : Int32) (x3 : Int32) (k19 : Int32 → Wd → Option (Wd)) (hk19 : ∀ (x3 : Int32) (w : Wd), Wm (EM Z) MX6_mixCells oVw w 19 [(0, Value.ref (aC Z 0)), (1, Value.int x1), (2, Value.int x2), (3, Value.int x3)] [] (k19 x3 w)) : Wm (EM Z) MX6_mixCells oVw w 147 [(0, Value.ref (aC Z 0)), (1, Value.int x1), (2, Value.int x2), (3, Value.int x3)] [] (f_X6_mixCells_b147 x1 x2 x3 k19 w) := by
  unfold f_X6_mixCells_b147
  refine r_aload_n dX6_mixCells_147 0 rfl ?_
  refine r_aload_n dX6_mixCells_148 0 rfl ?_
  refine r_iload_n dX6_mixCells_149 1 rfl ?_
  refine r_iload_n dX6_mixCells_150 3 rfl ?_
  refine r_iload_n dX6_mixCells_151 2 rfl ?_
  refine r_callV_Iw [Value.int x1, Value.int x3, Value.int x2] cfX6_filledOf (m_X6_filledOf Z w x1 x3 x2) km_X6_208 ⟨rfl, rfl, (Nat.le_of_ble_eq_true rfl), (Nat.le_of_ble_eq_true rfl)⟩ rfl rfl 0 (qM_0 Z w) rfl rfl (Nat.le_of_ble_eq_true rfl) dX6_mixCells_152 (fun z3 => ?_)
  refine r_i2l dX6_mixCells_155 ?_
  refine r_callV_Vw [Value.long ((z3.1).toInt64)] cfX6_mix (m_X6_mix Z z3.2 ((z3.1).toInt64)) km_X6_273 ⟨rfl, rfl, (Nat.le_of_ble_eq_true rfl), (Nat.le_of_ble_eq_true rfl)⟩ rfl rfl 0 (qM_0 Z z3.2) rfl rfl (Nat.le_of_ble_eq_true rfl) dX6_mixCells_156 (fun w4 => ?_)
  exact wk_X6_mixCells_b159 Z w4 x1 x2 x3 k19 hk19
def f_X6_mixCells_b40 (x1 : Int32) (x2 : Int32) (x3 : Int32) (x4 : Int32) (k19 : Int32 → Wd → Option (Wd)) : Nat → Int32 → Wd → Option (Wd)
  | 0, _, _ => none
  | n + 1, x5, w =>
  if (12 : Int32) ≤ x5 then (jlet (((4 : Int32) * x2) + x3) (fun y7 => if inb y7 16 = true then ((f_X6_mix (((w.1 7 (y7).toNatClampNeg)).toInt64) w).bind (fun w8 => if inb y7 16 = true then (if (w8.1 7 (y7).toNatClampNeg) = 0 then (if inb y7 16 = true then ((f_X6_mix (((w8.1 8 (y7).toNatClampNeg)).toInt64) w8).bind (fun w11 => f_X6_mixCells_b159 x1 x2 x3 k19 w11)) else none) else (if inb y7 16 = true then (if (w8.1 7 (y7).toNatClampNeg) = (4 : Int32) then (if inb y7 16 = true then ((f_X6_mix (((w8.1 9 (y7).toNatClampNeg)).toInt64) w8).bind (fun w9 => if inb y7 16 = true then ((f_X6_mix (((w9.1 10 (y7).toNatClampNeg)).toInt64) w9).bind (fun w10 => f_X6_mixCells_b147 x1 x2 x3 k19 w10)) else none)) else none) else (f_X6_mixCells_b147 x1 x2 x3 k19 w8)) else none)) else none)) else none)) else (if inb (x4 + x5) 395 = true then ((f_X6_mix (((w.1 1 (x4 + x5).toNatClampNeg)).toInt64) w).bind (fun w12 => f_X6_mixCells_b40 x1 x2 x3 x4 k19 n (x5 + 1) w12)) else none)
set_option maxRecDepth 100000 in
set_option maxHeartbeats 4000000 in
theorem wk_X6_mixCells_b40 (Z : CSp) (x1 : Int32) (x2 : Int32) (x3 : Int32) (x4 : Int32) (k19 : Int32 → Wd → Option (Wd)) (hk19 : ∀ (x3 : Int32) (w : Wd), Wm (EM Z) MX6_mixCells oVw w 19 [(0, Value.ref (aC Z 0)), (1, Value.int x1), (2, Value.int x2), (3, Value.int x3)] [] (k19 x3 w)) : ∀ (n : Nat) (x5 : Int32) (w : Wd), Wm (EM Z) MX6_mixCells oVw w 40 [(0, Value.ref (aC Z 0)), (1, Value.int x1), (2, Value.int x2), (3, Value.int x3), (4, Value.int x4), (5, Value.int x5)] [] (f_X6_mixCells_b40 x1 x2 x3 x4 k19 n x5 w) := by
  intro n
  induction n with
  | zero =>
    intro x5 w
    exact r_none
  | succ n ih =>
    intro x5 w
    rw [f_X6_mixCells_b40]
    refine r_iload dX6_mixCells_40 5 rfl ?_
    refine r_bipush (v := 12) dX6_mixCells_42 (by decide) ?_
    refine r_icmp_ge (tgt := 68) dX6_mixCells_44 (by decide) (fun _ => ?_) (fun _ => ?_)
    · refine r_iconst (v := 4) dX6_mixCells_68 (by decide) ?_
      refine r_iload_n dX6_mixCells_69 2 rfl ?_
      refine r_imul dX6_mixCells_70 ?_
      refine r_iload_n dX6_mixCells_71 3 rfl ?_
      refine r_iadd dX6_mixCells_72 ?_
      refine r_leti (fun y7 => ?_)
      refine r_istore (lv' := [(0, Value.ref (aC Z 0)), (1, Value.int x1), (2, Value.int x2), (3, Value.int x3), (4, Value.int x4), (5, Value.int y7)]) dX6_mixCells_73 (Nat.le_of_ble_eq_true rfl) [1, 2, 3, 4, 5, 0] rfl ?_
      refine r_aload_n dX6_mixCells_75 0 rfl ?_
      refine r_aload_n dX6_mixCells_76 0 rfl ?_
      refine r_get FX6 14 (Nat.le_of_ble_eq_true rfl) kf_X6_28 0 (qM_0 Z w) rfl dX6_mixCells_77 ?_
      refine r_iload dX6_mixCells_80 5 rfl ?_
      refine r_iald 7 (qM_7 Z w) rfl dX6_mixCells_82 ?_
      refine r_i2l dX6_mixCells_83 ?_
      refine r_callV_Vw [Value.long (((w.1 7 (y7).toNatClampNeg)).toInt64)] cfX6_mix (m_X6_mix Z w (((w.1 7 (y7).toNatClampNeg)).toInt64)) km_X6_273 ⟨rfl, rfl, (Nat.le_of_ble_eq_true rfl), (Nat.le_of_ble_eq_true rfl)⟩ rfl rfl 0 (qM_0 Z w) rfl rfl (Nat.le_of_ble_eq_true rfl) dX6_mixCells_84 (fun w8 => ?_)
      refine r_aload_n dX6_mixCells_87 0 rfl ?_
      refine r_get FX6 14 (Nat.le_of_ble_eq_true rfl) kf_X6_28 0 (qM_0 Z w8) rfl dX6_mixCells_88 ?_
      refine r_iload dX6_mixCells_91 5 rfl ?_
      refine r_iald 7 (qM_7 Z w8) rfl dX6_mixCells_93 ?_
      refine r_if_ne (tgt := 112) dX6_mixCells_94 (by decide) (fun _ => ?_) (fun _ => ?_)
      · refine r_aload_n dX6_mixCells_112 0 rfl ?_
        refine r_get FX6 14 (Nat.le_of_ble_eq_true rfl) kf_X6_28 0 (qM_0 Z w8) rfl dX6_mixCells_113 ?_
        refine r_iload dX6_mixCells_116 5 rfl ?_
        refine r_iald 7 (qM_7 Z w8) rfl dX6_mixCells_118 ?_
        refine r_iconst (v := 4) dX6_mixCells_119 (by decide) ?_
        refine r_icmp_ne (tgt := 147) dX6_mixCells_120 (by decide) (fun _ => ?_) (fun _ => ?_)
        · refine r_lv [0, 1, 2, 3] rfl ?_
          exact wk_X6_mixCells_b147 Z w8 x1 x2 x3 k19 hk19
        · refine r_aload_n dX6_mixCells_123 0 rfl ?_
          refine r_aload_n dX6_mixCells_124 0 rfl ?_
          refine r_get FX6 16 (Nat.le_of_ble_eq_true rfl) kf_X6_34 0 (qM_0 Z w8) rfl dX6_mixCells_125 ?_
          refine r_iload dX6_mixCells_128 5 rfl ?_
          refine r_iald 9 (qM_9 Z w8) rfl dX6_mixCells_130 ?_
          refine r_i2l dX6_mixCells_131 ?_
          refine r_callV_Vw [Value.long (((w8.1 9 (y7).toNatClampNeg)).toInt64)] cfX6_mix (m_X6_mix Z w8 (((w8.1 9 (y7).toNatClampNeg)).toInt64)) km_X6_273 ⟨rfl, rfl, (Nat.le_of_ble_eq_true rfl), (Nat.le_of_ble_eq_true rfl)⟩ rfl rfl 0 (qM_0 Z w8) rfl rfl (Nat.le_of_ble_eq_true rfl) dX6_mixCells_132 (fun w9 => ?_)
          refine r_aload_n dX6_mixCells_135 0 rfl ?_
          refine r_aload_n dX6_mixCells_136 0 rfl ?_
          refine r_get FX6 17 (Nat.le_of_ble_eq_true rfl) kf_X6_37 0 (qM_0 Z w9) rfl dX6_mixCells_137 ?_
          refine r_iload dX6_mixCells_140 5 rfl ?_
          refine r_iald 10 (qM_10 Z w9) rfl dX6_mixCells_142 ?_
          refine r_i2l dX6_mixCells_143 ?_
          refine r_callV_Vw [Value.long (((w9.1 10 (y7).toNatClampNeg)).toInt64)] cfX6_mix (m_X6_mix Z w9 (((w9.1 10 (y7).toNatClampNeg)).toInt64)) km_X6_273 ⟨rfl, rfl, (Nat.le_of_ble_eq_true rfl), (Nat.le_of_ble_eq_true rfl)⟩ rfl rfl 0 (qM_0 Z w9) rfl rfl (Nat.le_of_ble_eq_true rfl) dX6_mixCells_144 (fun w10 => ?_)
          refine r_lv [0, 1, 2, 3] rfl ?_
          exact wk_X6_mixCells_b147 Z w10 x1 x2 x3 k19 hk19
      · refine r_aload_n dX6_mixCells_97 0 rfl ?_
        refine r_aload_n dX6_mixCells_98 0 rfl ?_
        refine r_get FX6 15 (Nat.le_of_ble_eq_true rfl) kf_X6_31 0 (qM_0 Z w8) rfl dX6_mixCells_99 ?_
        refine r_iload dX6_mixCells_102 5 rfl ?_
        refine r_iald 8 (qM_8 Z w8) rfl dX6_mixCells_104 ?_
        refine r_i2l dX6_mixCells_105 ?_
        refine r_callV_Vw [Value.long (((w8.1 8 (y7).toNatClampNeg)).toInt64)] cfX6_mix (m_X6_mix Z w8 (((w8.1 8 (y7).toNatClampNeg)).toInt64)) km_X6_273 ⟨rfl, rfl, (Nat.le_of_ble_eq_true rfl), (Nat.le_of_ble_eq_true rfl)⟩ rfl rfl 0 (qM_0 Z w8) rfl rfl (Nat.le_of_ble_eq_true rfl) dX6_mixCells_106 (fun w11 => ?_)
        refine r_goto (tgt := 159) dX6_mixCells_109 (by decide) ?_
        refine r_lv [0, 1, 2, 3] rfl ?_
        exact wk_X6_mixCells_b159 Z w11 x1 x2 x3 k19 hk19
    · refine r_aload_n dX6_mixCells_47 0 rfl ?_
      refine r_aload_n dX6_mixCells_48 0 rfl ?_
      refine r_get FX6 0 (Nat.le_of_ble_eq_true rfl) kf_X6_7 0 (qM_0 Z w) rfl dX6_mixCells_49 ?_
      refine r_iload dX6_mixCells_52 4 rfl ?_
      refine r_iload dX6_mixCells_54 5 rfl ?_
      refine r_iadd dX6_mixCells_56 ?_
      refine r_iald 1 (qM_1 Z w) rfl dX6_mixCells_57 ?_
      refine r_i2l dX6_mixCells_58 ?_
      refine r_callV_Vw [Value.long (((w.1 1 (x4 + x5).toNatClampNeg)).toInt64)] cfX6_mix (m_X6_mix Z w (((w.1 1 (x4 + x5).toNatClampNeg)).toInt64)) km_X6_273 ⟨rfl, rfl, (Nat.le_of_ble_eq_true rfl), (Nat.le_of_ble_eq_true rfl)⟩ rfl rfl 0 (qM_0 Z w) rfl rfl (Nat.le_of_ble_eq_true rfl) dX6_mixCells_59 (fun w12 => ?_)
      refine r_iinc (lv' := [(0, Value.ref (aC Z 0)), (1, Value.int x1), (2, Value.int x2), (3, Value.int x3), (4, Value.int x4), (5, Value.int (x5 + 1))]) dX6_mixCells_62 5 rfl (by rfl) (Nat.le_of_ble_eq_true rfl) [1, 2, 3, 4, 5, 0] rfl ?_
      refine r_goto (tgt := 40) dX6_mixCells_65 (by decide) ?_
      exact ih (x5 + 1) w12
def f_X6_mixCells_b19 (x1 : Int32) (x2 : Int32) (k7 : Int32 → Wd → Option (Wd)) : Nat → Int32 → Wd → Option (Wd)
  | 0, _, _ => none
  | n + 1, x3, w =>
  if inb (0 : Int32) 395 = true then (if (w.1 1 ((0 : Int32)).toNatClampNeg) ≤ x3 then (k7 (x2 + 1) w) else ((f_X6_cellPlace x1 x3 x2).bind (fun v2 => f_X6_mixCells_b40 x1 x2 x3 v2 (f_X6_mixCells_b19 x1 x2 k7 n) FUEL (0 : Int32) w))) else none
set_option maxRecDepth 100000 in
set_option maxHeartbeats 4000000 in
theorem wk_X6_mixCells_b19 (Z : CSp) (x1 : Int32) (x2 : Int32) (k7 : Int32 → Wd → Option (Wd)) (hk7 : ∀ (x2 : Int32) (w : Wd), Wm (EM Z) MX6_mixCells oVw w 7 [(0, Value.ref (aC Z 0)), (1, Value.int x1), (2, Value.int x2)] [] (k7 x2 w)) : ∀ (n : Nat) (x3 : Int32) (w : Wd), Wm (EM Z) MX6_mixCells oVw w 19 [(0, Value.ref (aC Z 0)), (1, Value.int x1), (2, Value.int x2), (3, Value.int x3)] [] (f_X6_mixCells_b19 x1 x2 k7 n x3 w) := by
  intro n
  induction n with
  | zero =>
    intro x3 w
    exact r_none
  | succ n ih =>
    intro x3 w
    rw [f_X6_mixCells_b19]
    refine r_iload_n dX6_mixCells_19 3 rfl ?_
    refine r_aload_n dX6_mixCells_20 0 rfl ?_
    refine r_get FX6 0 (Nat.le_of_ble_eq_true rfl) kf_X6_7 0 (qM_0 Z w) rfl dX6_mixCells_21 ?_
    refine r_iconst (v := 0) dX6_mixCells_24 (by decide) ?_
    refine r_iald 1 (qM_1 Z w) rfl dX6_mixCells_25 ?_
    refine r_icmp_ge (tgt := 165) dX6_mixCells_26 (by decide) (fun _ => ?_) (fun _ => ?_)
    · refine r_iinc (lv' := [(0, Value.ref (aC Z 0)), (1, Value.int x1), (2, Value.int (x2 + 1)), (3, Value.int x3)]) dX6_mixCells_165 2 rfl (by rfl) (Nat.le_of_ble_eq_true rfl) [1, 2, 0, 3] rfl ?_
      refine r_goto (tgt := 7) dX6_mixCells_168 (by decide) ?_
      refine r_lv [0, 1, 2] rfl ?_
      exact hk7 (x2 + 1) w
    · refine r_iload_n dX6_mixCells_29 1 rfl ?_
      refine r_iload_n dX6_mixCells_30 3 rfl ?_
      refine r_iload_n dX6_mixCells_31 2 rfl ?_
      refine r_callS_I [Value.int x1, Value.int x3, Value.int x2] cfX6_cellPlace (m_X6_cellPlace Z w x1 x3 x2) km_X6_72 ⟨rfl, rfl, (Nat.le_of_ble_eq_true rfl), (Nat.le_of_ble_eq_true rfl)⟩ rfl rfl (Nat.le_of_ble_eq_true rfl) dX6_mixCells_32 (fun v2 => ?_)
      refine r_istore (lv' := [(0, Value.ref (aC Z 0)), (1, Value.int x1), (2, Value.int x2), (3, Value.int x3), (4, Value.int v2)]) dX6_mixCells_35 (Nat.le_of_ble_eq_true rfl) [1, 2, 3, 4, 0] rfl ?_
      refine r_iconst (v := 0) dX6_mixCells_37 (by decide) ?_
      refine r_istore (lv' := [(0, Value.ref (aC Z 0)), (1, Value.int x1), (2, Value.int x2), (3, Value.int x3), (4, Value.int v2), (5, Value.int (0 : Int32))]) dX6_mixCells_38 (Nat.le_of_ble_eq_true rfl) [1, 2, 3, 4, 5, 0] rfl ?_
      exact wk_X6_mixCells_b40 Z x1 x2 x3 v2 _ (ih) FUEL (0 : Int32) w
def f_X6_mixCells_b7 (x1 : Int32) : Nat → Int32 → Wd → Option (Wd)
  | 0, _, _ => none
  | n + 1, x2, w =>
  if inb (1 : Int32) 395 = true then (if (w.1 1 ((1 : Int32)).toNatClampNeg) ≤ x2 then (some w) else (f_X6_mixCells_b19 x1 x2 (f_X6_mixCells_b7 x1 n) FUEL (0 : Int32) w)) else none
set_option maxRecDepth 100000 in
set_option maxHeartbeats 4000000 in
theorem wk_X6_mixCells_b7 (Z : CSp) (x1 : Int32)  : ∀ (n : Nat) (x2 : Int32) (w : Wd), Wm (EM Z) MX6_mixCells oVw w 7 [(0, Value.ref (aC Z 0)), (1, Value.int x1), (2, Value.int x2)] [] (f_X6_mixCells_b7 x1 n x2 w) := by
  intro n
  induction n with
  | zero =>
    intro x2 w
    exact r_none
  | succ n ih =>
    intro x2 w
    rw [f_X6_mixCells_b7]
    refine r_iload_n dX6_mixCells_7 2 rfl ?_
    refine r_aload_n dX6_mixCells_8 0 rfl ?_
    refine r_get FX6 0 (Nat.le_of_ble_eq_true rfl) kf_X6_7 0 (qM_0 Z w) rfl dX6_mixCells_9 ?_
    refine r_iconst (v := 1) dX6_mixCells_12 (by decide) ?_
    refine r_iald 1 (qM_1 Z w) rfl dX6_mixCells_13 ?_
    refine r_icmp_ge (tgt := 171) dX6_mixCells_14 (by decide) (fun _ => ?_) (fun _ => ?_)
    · exact r_vret rfl dX6_mixCells_171
    · refine r_iconst (v := 0) dX6_mixCells_17 (by decide) ?_
      refine r_istore_n (lv' := [(0, Value.ref (aC Z 0)), (1, Value.int x1), (2, Value.int x2), (3, Value.int (0 : Int32))]) dX6_mixCells_18 (Nat.le_of_ble_eq_true rfl) [1, 2, 3, 0] rfl ?_
      exact wk_X6_mixCells_b19 Z x1 x2 _ (ih) FUEL (0 : Int32) w
def f_X6_mixCells (x1 : Int32) (w : Wd) : Option (Wd) :=
  (f_X6_looksAtAll x1 w).bind (fun w1 => f_X6_mixCells_b7 x1 FUEL (0 : Int32) w1)
set_option maxRecDepth 100000 in
set_option maxHeartbeats 4000000 in
theorem wk_X6_mixCells (Z : CSp) (w : Wd) (x1 : Int32)  : Wm (EM Z) MX6_mixCells oVw w 0 [(0, Value.ref (aC Z 0)), (1, Value.int x1)] [] (f_X6_mixCells x1 w) := by
  unfold f_X6_mixCells
  refine r_aload_n dX6_mixCells_0 0 rfl ?_
  refine r_iload_n dX6_mixCells_1 1 rfl ?_
  refine r_callV_Vw [Value.int x1] cfX6_looksAtAll (m_X6_looksAtAll Z w x1) km_X6_214 ⟨rfl, rfl, (Nat.le_of_ble_eq_true rfl), (Nat.le_of_ble_eq_true rfl)⟩ rfl rfl 0 (qM_0 Z w) rfl rfl (Nat.le_of_ble_eq_true rfl) dX6_mixCells_2 (fun w1 => ?_)
  refine r_iconst (v := 0) dX6_mixCells_5 (by decide) ?_
  refine r_istore_n (lv' := [(0, Value.ref (aC Z 0)), (1, Value.int x1), (2, Value.int (0 : Int32))]) dX6_mixCells_6 (Nat.le_of_ble_eq_true rfl) [1, 2, 0] rfl ?_
  exact wk_X6_mixCells_b7 Z x1 FUEL (0 : Int32) w1
theorem m_X6_mixCells (Z : CSp) (w : Wd) (x1 : Int32) : MetM (EM Z) yX6_mixCells cX6_mixCells 6 none { frames := 7, cells := 0, slots := 0, locals := 161 } oVw [Value.ref (aC Z 0), Value.int x1] w (f_X6_mixCells x1 w) := MetM_of (plainFor_of_name (by decide)) (Nat.le_of_ble_eq_true rfl) (wk_X6_mixCells Z w x1)
abbrev MX6_refusedOf : Mt := (cX6_refusedOf, RX6, 2, some .int, { frames := 0, cells := 0, slots := 0, locals := 0 })
def f_X6_refusedOf_b30 (s0 : Int32) (w : Wd) : Option (Int32) :=
  some s0
set_option maxRecDepth 100000 in
set_option maxHeartbeats 4000000 in
theorem wk_X6_refusedOf_b30 (Z : CSp) (w : Wd) (s0 : Int32)  : Wm (EM Z) MX6_refusedOf (oI w) w 30 [] [Value.int s0] (f_X6_refusedOf_b30 s0 w) := by
  unfold f_X6_refusedOf_b30
  exact r_iret rfl dX6_refusedOf_30
def f_X6_refusedOf (x1 : Int32) (w : Wd) : Option (Int32) :=
  if (3 : Int32) ≤ x1 then (if x1 = (3 : Int32) then (f_X6_refusedOf_b30 (w.1 0 6) w) else (f_X6_refusedOf_b30 (w.1 0 3) w)) else (if inb x1 3 = true then (f_X6_refusedOf_b30 (w.1 4 (x1).toNatClampNeg) w) else none)
set_option maxRecDepth 100000 in
set_option maxHeartbeats 4000000 in
theorem wk_X6_refusedOf (Z : CSp) (w : Wd) (x1 : Int32)  : Wm (EM Z) MX6_refusedOf (oI w) w 0 [(0, Value.ref (aC Z 0)), (1, Value.int x1)] [] (f_X6_refusedOf x1 w) := by
  unfold f_X6_refusedOf
  refine r_iload_n dX6_refusedOf_0 1 rfl ?_
  refine r_iconst (v := 3) dX6_refusedOf_1 (by decide) ?_
  refine r_icmp_ge (tgt := 14) dX6_refusedOf_2 (by decide) (fun _ => ?_) (fun _ => ?_)
  · refine r_iload_n dX6_refusedOf_14 1 rfl ?_
    refine r_iconst (v := 3) dX6_refusedOf_15 (by decide) ?_
    refine r_icmp_ne (tgt := 26) dX6_refusedOf_16 (by decide) (fun _ => ?_) (fun _ => ?_)
    · refine r_aload_n dX6_refusedOf_26 0 rfl ?_
      refine r_get FX6 3 (Nat.le_of_ble_eq_true rfl) kf_X6_46 0 (qM_0 Z w) rfl dX6_refusedOf_27 ?_
      refine r_lv [] rfl ?_
      exact wk_X6_refusedOf_b30 Z w (w.1 0 3)
    · refine r_aload_n dX6_refusedOf_19 0 rfl ?_
      refine r_get FX6 6 (Nat.le_of_ble_eq_true rfl) kf_X6_227 0 (qM_0 Z w) rfl dX6_refusedOf_20 ?_
      refine r_goto (tgt := 30) dX6_refusedOf_23 (by decide) ?_
      refine r_lv [] rfl ?_
      exact wk_X6_refusedOf_b30 Z w (w.1 0 6)
  · refine r_aload_n dX6_refusedOf_5 0 rfl ?_
    refine r_get FX6 4 (Nat.le_of_ble_eq_true rfl) kf_X6_19 0 (qM_0 Z w) rfl dX6_refusedOf_6 ?_
    refine r_iload_n dX6_refusedOf_9 1 rfl ?_
    refine r_iald 4 (qM_4 Z w) rfl dX6_refusedOf_10 ?_
    refine r_goto (tgt := 30) dX6_refusedOf_11 (by decide) ?_
    refine r_lv [] rfl ?_
    exact wk_X6_refusedOf_b30 Z w (w.1 4 (x1).toNatClampNeg)
theorem m_X6_refusedOf (Z : CSp) (w : Wd) (x1 : Int32) : MetM (EM Z) yX6_refusedOf cX6_refusedOf 2 (some .int) { frames := 0, cells := 0, slots := 0, locals := 0 } (oI w) [Value.ref (aC Z 0), Value.int x1] w (f_X6_refusedOf x1 w) := MetM_of (plainFor_of_name (by decide)) (Nat.le_of_ble_eq_true rfl) (wk_X6_refusedOf Z w x1)
abbrev MX6_digest : Mt := (cX6_digest, RX6, 2, some .long, { frames := 8, cells := 0, slots := 0, locals := 186 })
def f_X6_digest_b32  : Nat → Int32 → Wd → Option (Int64 × Wd)
  | 0, _, _ => none
  | n + 1, x1, w =>
  if (11 : Int32) ≤ x1 then ((f_X6_mixCells (0 : Int32) w).bind (fun w8 => (f_X6_mixCells (1 : Int32) w8).bind (fun w9 => (f_X6_meanOf (0 : Int32) w9).bind (fun z10 => (f_X6_mix z10.1 z10.2).bind (fun w11 => (f_X6_meanOf (1 : Int32) w11).bind (fun z12 => (f_X6_mix z12.1 z12.2).bind (fun w13 => some (w13.2, w13)))))))) else (if inb x1 395 = true then ((f_X6_mix (((w.1 1 (x1).toNatClampNeg)).toInt64) w).bind (fun w14 => f_X6_digest_b32 n (x1 + 1) w14)) else none)
set_option maxRecDepth 100000 in
set_option maxHeartbeats 4000000 in
theorem wk_X6_digest_b32 (Z : CSp)   : ∀ (n : Nat) (x1 : Int32) (w : Wd), Wm (EM Z) MX6_digest oLw w 32 [(0, Value.ref (aC Z 0)), (1, Value.int x1)] [] (f_X6_digest_b32  n x1 w) := by
  intro n
  induction n with
  | zero =>
    intro x1 w
    exact r_none
  | succ n ih =>
    intro x1 w
    rw [f_X6_digest_b32]
    refine r_iload_n dX6_digest_32 1 rfl ?_
    refine r_bipush (v := 11) dX6_digest_33 (by decide) ?_
    refine r_icmp_ge (tgt := 55) dX6_digest_35 (by decide) (fun _ => ?_) (fun _ => ?_)
    · refine r_aload_n dX6_digest_55 0 rfl ?_
      refine r_iconst (v := 0) dX6_digest_56 (by decide) ?_
      refine r_callV_Vw [Value.int (0 : Int32)] cfX6_mixCells (m_X6_mixCells Z w (0 : Int32)) km_X6_279 ⟨rfl, rfl, (Nat.le_of_ble_eq_true rfl), (Nat.le_of_ble_eq_true rfl)⟩ rfl rfl 0 (qM_0 Z w) rfl rfl (Nat.le_of_ble_eq_true rfl) dX6_digest_57 (fun w8 => ?_)
      refine r_aload_n dX6_digest_60 0 rfl ?_
      refine r_iconst (v := 1) dX6_digest_61 (by decide) ?_
      refine r_callV_Vw [Value.int (1 : Int32)] cfX6_mixCells (m_X6_mixCells Z w8 (1 : Int32)) km_X6_279 ⟨rfl, rfl, (Nat.le_of_ble_eq_true rfl), (Nat.le_of_ble_eq_true rfl)⟩ rfl rfl 0 (qM_0 Z w8) rfl rfl (Nat.le_of_ble_eq_true rfl) dX6_digest_62 (fun w9 => ?_)
      refine r_aload_n dX6_digest_65 0 rfl ?_
      refine r_aload_n dX6_digest_66 0 rfl ?_
      refine r_iconst (v := 0) dX6_digest_67 (by decide) ?_
      refine r_callV_Lw [Value.int (0 : Int32)] cfX6_meanOf (m_X6_meanOf Z w9 (0 : Int32)) km_X6_223 ⟨rfl, rfl, (Nat.le_of_ble_eq_true rfl), (Nat.le_of_ble_eq_true rfl)⟩ rfl rfl 0 (qM_0 Z w9) rfl rfl (Nat.le_of_ble_eq_true rfl) dX6_digest_68 (fun z10 => ?_)
      refine r_callV_Vw [Value.long z10.1] cfX6_mix (m_X6_mix Z z10.2 z10.1) km_X6_273 ⟨rfl, rfl, (Nat.le_of_ble_eq_true rfl), (Nat.le_of_ble_eq_true rfl)⟩ rfl rfl 0 (qM_0 Z z10.2) rfl rfl (Nat.le_of_ble_eq_true rfl) dX6_digest_71 (fun w11 => ?_)
      refine r_aload_n dX6_digest_74 0 rfl ?_
      refine r_aload_n dX6_digest_75 0 rfl ?_
      refine r_iconst (v := 1) dX6_digest_76 (by decide) ?_
      refine r_callV_Lw [Value.int (1 : Int32)] cfX6_meanOf (m_X6_meanOf Z w11 (1 : Int32)) km_X6_223 ⟨rfl, rfl, (Nat.le_of_ble_eq_true rfl), (Nat.le_of_ble_eq_true rfl)⟩ rfl rfl 0 (qM_0 Z w11) rfl rfl (Nat.le_of_ble_eq_true rfl) dX6_digest_77 (fun z12 => ?_)
      refine r_callV_Vw [Value.long z12.1] cfX6_mix (m_X6_mix Z z12.2 z12.1) km_X6_273 ⟨rfl, rfl, (Nat.le_of_ble_eq_true rfl), (Nat.le_of_ble_eq_true rfl)⟩ rfl rfl 0 (qM_0 Z z12.2) rfl rfl (Nat.le_of_ble_eq_true rfl) dX6_digest_80 (fun w13 => ?_)
      refine r_aload_n dX6_digest_83 0 rfl ?_
      refine r_get FX6 26 (Nat.le_of_ble_eq_true rfl) kf_X6_269 0 (qM_0 Z w13) rfl dX6_digest_84 ?_
      exact r_lretw rfl dX6_digest_87
    · refine r_aload_n dX6_digest_38 0 rfl ?_
      refine r_aload_n dX6_digest_39 0 rfl ?_
      refine r_get FX6 0 (Nat.le_of_ble_eq_true rfl) kf_X6_7 0 (qM_0 Z w) rfl dX6_digest_40 ?_
      refine r_iload_n dX6_digest_43 1 rfl ?_
      refine r_iald 1 (qM_1 Z w) rfl dX6_digest_44 ?_
      refine r_i2l dX6_digest_45 ?_
      refine r_callV_Vw [Value.long (((w.1 1 (x1).toNatClampNeg)).toInt64)] cfX6_mix (m_X6_mix Z w (((w.1 1 (x1).toNatClampNeg)).toInt64)) km_X6_273 ⟨rfl, rfl, (Nat.le_of_ble_eq_true rfl), (Nat.le_of_ble_eq_true rfl)⟩ rfl rfl 0 (qM_0 Z w) rfl rfl (Nat.le_of_ble_eq_true rfl) dX6_digest_46 (fun w14 => ?_)
      refine r_iinc (lv' := [(0, Value.ref (aC Z 0)), (1, Value.int (x1 + 1))]) dX6_digest_49 1 rfl (by rfl) (Nat.le_of_ble_eq_true rfl) [1, 0] rfl ?_
      refine r_goto (tgt := 32) dX6_digest_52 (by decide) ?_
      exact ih (x1 + 1) w14
def f_X6_digest_b9  : Nat → Int32 → Wd → Option (Int64 × Wd)
  | 0, _, _ => none
  | n + 1, x1, w =>
  if (5 : Int32) ≤ x1 then (f_X6_digest_b32 FUEL (0 : Int32) w) else ((f_X6_refusedOf x1 w).bind (fun v3 => (f_X6_mix ((v3).toInt64) w).bind (fun w4 => f_X6_digest_b9 n (x1 + 1) w4)))
set_option maxRecDepth 100000 in
set_option maxHeartbeats 4000000 in
theorem wk_X6_digest_b9 (Z : CSp)   : ∀ (n : Nat) (x1 : Int32) (w : Wd), Wm (EM Z) MX6_digest oLw w 9 [(0, Value.ref (aC Z 0)), (1, Value.int x1)] [] (f_X6_digest_b9  n x1 w) := by
  intro n
  induction n with
  | zero =>
    intro x1 w
    exact r_none
  | succ n ih =>
    intro x1 w
    rw [f_X6_digest_b9]
    refine r_iload_n dX6_digest_9 1 rfl ?_
    refine r_iconst (v := 5) dX6_digest_10 (by decide) ?_
    refine r_icmp_ge (tgt := 30) dX6_digest_11 (by decide) (fun _ => ?_) (fun _ => ?_)
    · refine r_iconst (v := 0) dX6_digest_30 (by decide) ?_
      refine r_istore_n (lv' := [(0, Value.ref (aC Z 0)), (1, Value.int (0 : Int32))]) dX6_digest_31 (Nat.le_of_ble_eq_true rfl) [1, 0] rfl ?_
      exact wk_X6_digest_b32 Z FUEL (0 : Int32) w
    · refine r_aload_n dX6_digest_14 0 rfl ?_
      refine r_aload_n dX6_digest_15 0 rfl ?_
      refine r_iload_n dX6_digest_16 1 rfl ?_
      refine r_callV_I [Value.int x1] cfX6_refusedOf (m_X6_refusedOf Z w x1) km_X6_264 ⟨rfl, rfl, (Nat.le_of_ble_eq_true rfl), (Nat.le_of_ble_eq_true rfl)⟩ rfl rfl 0 (qM_0 Z w) rfl rfl (Nat.le_of_ble_eq_true rfl) dX6_digest_17 (fun v3 => ?_)
      refine r_i2l dX6_digest_20 ?_
      refine r_callV_Vw [Value.long ((v3).toInt64)] cfX6_mix (m_X6_mix Z w ((v3).toInt64)) km_X6_273 ⟨rfl, rfl, (Nat.le_of_ble_eq_true rfl), (Nat.le_of_ble_eq_true rfl)⟩ rfl rfl 0 (qM_0 Z w) rfl rfl (Nat.le_of_ble_eq_true rfl) dX6_digest_21 (fun w4 => ?_)
      refine r_iinc (lv' := [(0, Value.ref (aC Z 0)), (1, Value.int (x1 + 1))]) dX6_digest_24 1 rfl (by rfl) (Nat.le_of_ble_eq_true rfl) [1, 0] rfl ?_
      refine r_goto (tgt := 9) dX6_digest_27 (by decide) ?_
      exact ih (x1 + 1) w4
def f_X6_digest (w : Wd) : Option (Int64 × Wd) :=
  wputl w (1689 : Int64) (fun w1 => f_X6_digest_b9 FUEL (0 : Int32) w1)
set_option maxRecDepth 100000 in
set_option maxHeartbeats 4000000 in
theorem wk_X6_digest (Z : CSp) (w : Wd)   : Wm (EM Z) MX6_digest oLw w 0 [(0, Value.ref (aC Z 0))] [] (f_X6_digest w) := by
  unfold f_X6_digest
  refine r_aload_n dX6_digest_0 0 rfl ?_
  refine r_ldc2 dX6_digest_1 kk_X6_277 ?_
  refine r_putl FX6 tyX6_ok nmX6 kf_X6_269 (qM_0 Z w) ⟨(Nat.le_of_ble_eq_true rfl), (Nat.le_of_ble_eq_true rfl), rfl⟩ (by decide) (uM_0_26 Z w (1689 : Int64)) dX6_digest_4 (fun w1 => ?_)
  refine r_iconst (v := 0) dX6_digest_7 (by decide) ?_
  refine r_istore_n (lv' := [(0, Value.ref (aC Z 0)), (1, Value.int (0 : Int32))]) dX6_digest_8 (Nat.le_of_ble_eq_true rfl) [1, 0] rfl ?_
  exact wk_X6_digest_b9 Z FUEL (0 : Int32) w1
theorem m_X6_digest (Z : CSp) (w : Wd)  : MetM (EM Z) yX6_digest cX6_digest 2 (some .long) { frames := 8, cells := 0, slots := 0, locals := 186 } oLw [Value.ref (aC Z 0)] w (f_X6_digest w) := MetM_of (plainFor_of_name (by decide)) (Nat.le_of_ble_eq_true rfl) (wk_X6_digest Z w )
abbrev MX6_echoParts : Mt := (cX6_echoParts, RX6, 5, some .int, { frames := 0, cells := 0, slots := 0, locals := 0 })
def f_X6_echoParts_b97 (x2 : Int32) (x3 : Int32) : Option (Int32) :=
  some ((((4096 : Int32) * (x2 + (1024 : Int32))) + x3) + (1024 : Int32))
set_option maxRecDepth 100000 in
set_option maxHeartbeats 4000000 in
theorem wk_X6_echoParts_b97 (Z : CSp) (w : Wd) (x2 : Int32) (x3 : Int32)  : Wm (EM Z) MX6_echoParts (oI w) w 97 [(2, Value.int x2), (3, Value.int x3)] [] (f_X6_echoParts_b97 x2 x3) := by
  unfold f_X6_echoParts_b97
  refine r_sipush (v := 4096) dX6_echoParts_97 (by decide) ?_
  refine r_iload_n dX6_echoParts_100 0 rfl ?_
  refine r_sipush (v := 1024) dX6_echoParts_101 (by decide) ?_
  refine r_iadd dX6_echoParts_104 ?_
  refine r_imul dX6_echoParts_105 ?_
  refine r_iload_n dX6_echoParts_106 1 rfl ?_
  refine r_iadd dX6_echoParts_107 ?_
  refine r_sipush (v := 1024) dX6_echoParts_108 (by decide) ?_
  refine r_iadd dX6_echoParts_111 ?_
  exact r_iret rfl dX6_echoParts_112
def f_X6_echoParts (x0 : Int32) (x1 : UInt32) : Option (Int32) :=
  if 0 ≤ (fcg x1 FP.fconst1) then (if 0 ≤ (fcg x1 FP.fconst2) then (if 0 ≤ (fcg x1 (1077936128 : UInt32)) then (if nn32 (FP.fsub x1 (1077936128 : UInt32)) = true then (if nn32 (FP.fmul (FP.i2f x0) (FP.fsub x1 (1077936128 : UInt32))) = true then (jlet (FP.f2i (FP.fmul (FP.i2f x0) (FP.fsub x1 (1077936128 : UInt32)))) (fun y1 => jlet (y1 - x0) (fun y2 => f_X6_echoParts_b97 y1 y2))) else none) else none) else (if nn32 (FP.fsub x1 FP.fconst2) = true then (if nn32 (FP.fmul (FP.i2f x0) (FP.fsub x1 FP.fconst2)) = true then (jlet (FP.f2i (FP.fmul (FP.i2f x0) (FP.fsub x1 FP.fconst2))) (fun y3 => jlet (y3 - x0) (fun y4 => jlet (-y3) (fun y5 => f_X6_echoParts_b97 y4 y5)))) else none) else none)) else (if nn32 (FP.fsub x1 FP.fconst1) = true then (if nn32 (FP.fmul (FP.i2f x0) (FP.fsub x1 FP.fconst1)) = true then (jlet (FP.f2i (FP.fmul (FP.i2f x0) (FP.fsub x1 FP.fconst1))) (fun y6 => jlet (-y6) (fun y7 => jlet (x0 - y6) (fun y8 => f_X6_echoParts_b97 y7 y8)))) else none) else none)) else (if nn32 (FP.fmul (FP.i2f x0) x1) = true then (jlet (FP.f2i (FP.fmul (FP.i2f x0) x1)) (fun y9 => jlet (x0 - y9) (fun y10 => f_X6_echoParts_b97 y10 y9))) else none)
set_option maxRecDepth 100000 in
set_option maxHeartbeats 4000000 in
theorem wk_X6_echoParts (Z : CSp) (w : Wd) (x0 : Int32) (x1 : UInt32)  : Wm (EM Z) MX6_echoParts (oI w) w 0 [(0, Value.int x0), (1, Value.float x1)] [] (f_X6_echoParts x0 x1) := by
  unfold f_X6_echoParts
  refine r_fload_n dX6_echoParts_0 1 rfl ?_
  refine r_fconst1 dX6_echoParts_1 ?_
  refine r_fcmpg dX6_echoParts_2 ?_
  refine r_if_ge (tgt := 24) dX6_echoParts_3 (by decide) (fun _ => ?_) (fun _ => ?_)
  · refine r_fload_n dX6_echoParts_24 1 rfl ?_
    refine r_fconst2 dX6_echoParts_25 ?_
    refine r_fcmpg dX6_echoParts_26 ?_
    refine r_if_ge (tgt := 51) dX6_echoParts_27 (by decide) (fun _ => ?_) (fun _ => ?_)
    · refine r_fload_n dX6_echoParts_51 1 rfl ?_
      refine r_ldcf dX6_echoParts_52 kk_X6_68 ?_
      refine r_fcmpg dX6_echoParts_54 ?_
      refine r_if_ge (tgt := 79) dX6_echoParts_55 (by decide) (fun _ => ?_) (fun _ => ?_)
      · refine r_iload_n dX6_echoParts_79 0 rfl ?_
        refine r_i2f dX6_echoParts_80 ?_
        refine r_fload_n dX6_echoParts_81 1 rfl ?_
        refine r_ldcf dX6_echoParts_82 kk_X6_68 ?_
        refine r_fsub dX6_echoParts_84 ?_
        refine r_fmul dX6_echoParts_85 ?_
        refine r_f2i dX6_echoParts_86 ?_
        refine r_leti (fun y1 => ?_)
        refine r_istore (lv' := [(0, Value.int x0), (1, Value.float x1), (4, Value.int y1)]) dX6_echoParts_87 (Nat.le_of_ble_eq_true rfl) [1, 2, 0] rfl ?_
        refine r_iload dX6_echoParts_89 2 rfl ?_
        refine r_istore_n (lv' := [(0, Value.int x0), (1, Value.float x1), (2, Value.int y1), (4, Value.int y1)]) dX6_echoParts_91 (Nat.le_of_ble_eq_true rfl) [1, 2, 0, 3] rfl ?_
        refine r_iload dX6_echoParts_92 3 rfl ?_
        refine r_iload_n dX6_echoParts_94 0 rfl ?_
        refine r_isub dX6_echoParts_95 ?_
        refine r_leti (fun y2 => ?_)
        refine r_istore_n (lv' := [(0, Value.int x0), (1, Value.float x1), (2, Value.int y1), (3, Value.int y2), (4, Value.int y1)]) dX6_echoParts_96 (Nat.le_of_ble_eq_true rfl) [1, 2, 3, 0, 4] rfl ?_
        refine r_lv [2, 3] rfl ?_
        exact wk_X6_echoParts_b97 Z w y1 y2
      · refine r_iload_n dX6_echoParts_58 0 rfl ?_
        refine r_i2f dX6_echoParts_59 ?_
        refine r_fload_n dX6_echoParts_60 1 rfl ?_
        refine r_fconst2 dX6_echoParts_61 ?_
        refine r_fsub dX6_echoParts_62 ?_
        refine r_fmul dX6_echoParts_63 ?_
        refine r_f2i dX6_echoParts_64 ?_
        refine r_leti (fun y3 => ?_)
        refine r_istore (lv' := [(0, Value.int x0), (1, Value.float x1), (4, Value.int y3)]) dX6_echoParts_65 (Nat.le_of_ble_eq_true rfl) [1, 2, 0] rfl ?_
        refine r_iload dX6_echoParts_67 2 rfl ?_
        refine r_iload_n dX6_echoParts_69 0 rfl ?_
        refine r_isub dX6_echoParts_70 ?_
        refine r_leti (fun y4 => ?_)
        refine r_istore_n (lv' := [(0, Value.int x0), (1, Value.float x1), (2, Value.int y4), (4, Value.int y3)]) dX6_echoParts_71 (Nat.le_of_ble_eq_true rfl) [1, 2, 0, 3] rfl ?_
        refine r_iload dX6_echoParts_72 3 rfl ?_
        refine r_ineg dX6_echoParts_74 ?_
        refine r_leti (fun y5 => ?_)
        refine r_istore_n (lv' := [(0, Value.int x0), (1, Value.float x1), (2, Value.int y4), (3, Value.int y5), (4, Value.int y3)]) dX6_echoParts_75 (Nat.le_of_ble_eq_true rfl) [1, 2, 3, 0, 4] rfl ?_
        refine r_goto (tgt := 97) dX6_echoParts_76 (by decide) ?_
        refine r_lv [2, 3] rfl ?_
        exact wk_X6_echoParts_b97 Z w y4 y5
    · refine r_iload_n dX6_echoParts_30 0 rfl ?_
      refine r_i2f dX6_echoParts_31 ?_
      refine r_fload_n dX6_echoParts_32 1 rfl ?_
      refine r_fconst1 dX6_echoParts_33 ?_
      refine r_fsub dX6_echoParts_34 ?_
      refine r_fmul dX6_echoParts_35 ?_
      refine r_f2i dX6_echoParts_36 ?_
      refine r_leti (fun y6 => ?_)
      refine r_istore (lv' := [(0, Value.int x0), (1, Value.float x1), (4, Value.int y6)]) dX6_echoParts_37 (Nat.le_of_ble_eq_true rfl) [1, 2, 0] rfl ?_
      refine r_iload dX6_echoParts_39 2 rfl ?_
      refine r_ineg dX6_echoParts_41 ?_
      refine r_leti (fun y7 => ?_)
      refine r_istore_n (lv' := [(0, Value.int x0), (1, Value.float x1), (2, Value.int y7), (4, Value.int y6)]) dX6_echoParts_42 (Nat.le_of_ble_eq_true rfl) [1, 2, 0, 3] rfl ?_
      refine r_iload_n dX6_echoParts_43 0 rfl ?_
      refine r_iload dX6_echoParts_44 3 rfl ?_
      refine r_isub dX6_echoParts_46 ?_
      refine r_leti (fun y8 => ?_)
      refine r_istore_n (lv' := [(0, Value.int x0), (1, Value.float x1), (2, Value.int y7), (3, Value.int y8), (4, Value.int y6)]) dX6_echoParts_47 (Nat.le_of_ble_eq_true rfl) [1, 2, 3, 0, 4] rfl ?_
      refine r_goto (tgt := 97) dX6_echoParts_48 (by decide) ?_
      refine r_lv [2, 3] rfl ?_
      exact wk_X6_echoParts_b97 Z w y7 y8
  · refine r_iload_n dX6_echoParts_6 0 rfl ?_
    refine r_i2f dX6_echoParts_7 ?_
    refine r_fload_n dX6_echoParts_8 1 rfl ?_
    refine r_fmul dX6_echoParts_9 ?_
    refine r_f2i dX6_echoParts_10 ?_
    refine r_leti (fun y9 => ?_)
    refine r_istore (lv' := [(0, Value.int x0), (1, Value.float x1), (4, Value.int y9)]) dX6_echoParts_11 (Nat.le_of_ble_eq_true rfl) [1, 2, 0] rfl ?_
    refine r_iload_n dX6_echoParts_13 0 rfl ?_
    refine r_iload dX6_echoParts_14 2 rfl ?_
    refine r_isub dX6_echoParts_16 ?_
    refine r_leti (fun y10 => ?_)
    refine r_istore_n (lv' := [(0, Value.int x0), (1, Value.float x1), (2, Value.int y10), (4, Value.int y9)]) dX6_echoParts_17 (Nat.le_of_ble_eq_true rfl) [1, 2, 0, 3] rfl ?_
    refine r_iload dX6_echoParts_18 3 rfl ?_
    refine r_istore_n (lv' := [(0, Value.int x0), (1, Value.float x1), (2, Value.int y10), (3, Value.int y9), (4, Value.int y9)]) dX6_echoParts_20 (Nat.le_of_ble_eq_true rfl) [1, 2, 3, 0, 4] rfl ?_
    refine r_goto (tgt := 97) dX6_echoParts_21 (by decide) ?_
    refine r_lv [2, 3] rfl ?_
    exact wk_X6_echoParts_b97 Z w y10 y9
theorem m_X6_echoParts (Z : CSp) (w : Wd) (x0 : Int32) (x1 : UInt32) : MetM (EM Z) yX6_echoParts cX6_echoParts 5 (some .int) { frames := 0, cells := 0, slots := 0, locals := 0 } (oI w) [Value.int x0, Value.float x1] w (f_X6_echoParts x0 x1) := MetM_of (plainFor_of_name (by decide)) (Nat.le_of_ble_eq_true rfl) (wk_X6_echoParts Z w x0 x1)
abbrev MX6_fullOnes : Mt := (cX6_fullOnes, RX6, 4, some .int, { frames := 0, cells := 0, slots := 0, locals := 0 })
def f_X6_fullOnes_b30 (x1 : Int32) (x3 : Int32) (s0 : Int32) (s1 : Int32) (k4 : Int32 → Int32 → Option (Int32)) (w : Wd) : Option (Int32) :=
  jlet (s1 + s0) (fun y2 => k4 y2 (x3 + 1))
set_option maxRecDepth 100000 in
set_option maxHeartbeats 4000000 in
theorem wk_X6_fullOnes_b30 (Z : CSp) (w : Wd) (x1 : Int32) (x3 : Int32) (s0 : Int32) (s1 : Int32) (k4 : Int32 → Int32 → Option (Int32)) (hk4 : ∀ (x2 : Int32) (x3 : Int32), Wm (EM Z) MX6_fullOnes (oI w) w 4 [(0, Value.ref (aC Z 0)), (1, Value.int x1), (2, Value.int x2), (3, Value.int x3)] [] (k4 x2 x3)) : Wm (EM Z) MX6_fullOnes (oI w) w 30 [(0, Value.ref (aC Z 0)), (1, Value.int x1), (3, Value.int x3)] [Value.int s0, Value.int s1] (f_X6_fullOnes_b30 x1 x3 s0 s1 k4 w) := by
  unfold f_X6_fullOnes_b30
  refine r_iadd dX6_fullOnes_30 ?_
  refine r_leti (fun y2 => ?_)
  refine r_istore_n (lv' := [(0, Value.ref (aC Z 0)), (1, Value.int x1), (2, Value.int y2), (3, Value.int x3)]) dX6_fullOnes_31 (Nat.le_of_ble_eq_true rfl) [1, 2, 0, 3] rfl ?_
  refine r_iinc (lv' := [(0, Value.ref (aC Z 0)), (1, Value.int x1), (2, Value.int y2), (3, Value.int (x3 + 1))]) dX6_fullOnes_32 3 rfl (by rfl) (Nat.le_of_ble_eq_true rfl) [1, 2, 3, 0] rfl ?_
  refine r_goto (tgt := 4) dX6_fullOnes_35 (by decide) ?_
  exact hk4 y2 (x3 + 1)
def f_X6_fullOnes_b4 (x1 : Int32) (w : Wd) : Nat → Int32 → Int32 → Option (Int32)
  | 0, _, _ => none
  | n + 1, x2, x3 =>
  if (12 : Int32) ≤ x3 then (some x2) else (if inb (x1 + x3) 395 = true then (if (w.1 1 (x1 + x3).toNatClampNeg) = (4095 : Int32) then (f_X6_fullOnes_b30 x1 x3 (1 : Int32) x2 (f_X6_fullOnes_b4 x1 w n) w) else (f_X6_fullOnes_b30 x1 x3 (0 : Int32) x2 (f_X6_fullOnes_b4 x1 w n) w)) else none)
set_option maxRecDepth 100000 in
set_option maxHeartbeats 4000000 in
theorem wk_X6_fullOnes_b4 (Z : CSp) (w : Wd) (x1 : Int32)  : ∀ (n : Nat) (x2 : Int32) (x3 : Int32), Wm (EM Z) MX6_fullOnes (oI w) w 4 [(0, Value.ref (aC Z 0)), (1, Value.int x1), (2, Value.int x2), (3, Value.int x3)] [] (f_X6_fullOnes_b4 x1 w n x2 x3) := by
  intro n
  induction n with
  | zero =>
    intro x2 x3
    exact r_none
  | succ n ih =>
    intro x2 x3
    rw [f_X6_fullOnes_b4]
    refine r_iload_n dX6_fullOnes_4 3 rfl ?_
    refine r_bipush (v := 12) dX6_fullOnes_5 (by decide) ?_
    refine r_icmp_ge (tgt := 38) dX6_fullOnes_7 (by decide) (fun _ => ?_) (fun _ => ?_)
    · refine r_iload_n dX6_fullOnes_38 2 rfl ?_
      exact r_iret rfl dX6_fullOnes_39
    · refine r_iload_n dX6_fullOnes_10 2 rfl ?_
      refine r_aload_n dX6_fullOnes_11 0 rfl ?_
      refine r_get FX6 0 (Nat.le_of_ble_eq_true rfl) kf_X6_7 0 (qM_0 Z w) rfl dX6_fullOnes_12 ?_
      refine r_iload_n dX6_fullOnes_15 1 rfl ?_
      refine r_iload_n dX6_fullOnes_16 3 rfl ?_
      refine r_iadd dX6_fullOnes_17 ?_
      refine r_iald 1 (qM_1 Z w) rfl dX6_fullOnes_18 ?_
      refine r_sipush (v := 4095) dX6_fullOnes_19 (by decide) ?_
      refine r_icmp_ne (tgt := 29) dX6_fullOnes_22 (by decide) (fun _ => ?_) (fun _ => ?_)
      · refine r_iconst (v := 0) dX6_fullOnes_29 (by decide) ?_
        refine r_lv [0, 1, 3] rfl ?_
        exact wk_X6_fullOnes_b30 Z w x1 x3 (0 : Int32) x2 _ (ih)
      · refine r_iconst (v := 1) dX6_fullOnes_25 (by decide) ?_
        refine r_goto (tgt := 30) dX6_fullOnes_26 (by decide) ?_
        refine r_lv [0, 1, 3] rfl ?_
        exact wk_X6_fullOnes_b30 Z w x1 x3 (1 : Int32) x2 _ (ih)
def f_X6_fullOnes (x1 : Int32) (w : Wd) : Option (Int32) :=
  f_X6_fullOnes_b4 x1 w FUEL (0 : Int32) (0 : Int32)
set_option maxRecDepth 100000 in
set_option maxHeartbeats 4000000 in
theorem wk_X6_fullOnes (Z : CSp) (w : Wd) (x1 : Int32)  : Wm (EM Z) MX6_fullOnes (oI w) w 0 [(0, Value.ref (aC Z 0)), (1, Value.int x1)] [] (f_X6_fullOnes x1 w) := by
  unfold f_X6_fullOnes
  refine r_iconst (v := 0) dX6_fullOnes_0 (by decide) ?_
  refine r_istore_n (lv' := [(0, Value.ref (aC Z 0)), (1, Value.int x1), (2, Value.int (0 : Int32))]) dX6_fullOnes_1 (Nat.le_of_ble_eq_true rfl) [1, 2, 0] rfl ?_
  refine r_iconst (v := 0) dX6_fullOnes_2 (by decide) ?_
  refine r_istore_n (lv' := [(0, Value.ref (aC Z 0)), (1, Value.int x1), (2, Value.int (0 : Int32)), (3, Value.int (0 : Int32))]) dX6_fullOnes_3 (Nat.le_of_ble_eq_true rfl) [1, 2, 3, 0] rfl ?_
  exact wk_X6_fullOnes_b4 Z w x1 FUEL (0 : Int32) (0 : Int32)
theorem m_X6_fullOnes (Z : CSp) (w : Wd) (x1 : Int32) : MetM (EM Z) yX6_fullOnes cX6_fullOnes 4 (some .int) { frames := 0, cells := 0, slots := 0, locals := 0 } (oI w) [Value.ref (aC Z 0), Value.int x1] w (f_X6_fullOnes x1 w) := MetM_of (plainFor_of_name (by decide)) (Nat.le_of_ble_eq_true rfl) (wk_X6_fullOnes Z w x1)
abbrev MX6_raised : Mt := (cX6_raised, RX6, 4, some .int, { frames := 0, cells := 0, slots := 0, locals := 0 })
def f_X6_raised_b28 (x1 : Int32) (s0 : Int32) (s1 : Int32) (w : Wd) : Option (Int32 × Wd) :=
  if inb s1 395 = true then (wput w 1 (s1).toNatClampNeg s0 (fun w2 => if inb x1 395 = true then (some ((w2.1 1 (x1).toNatClampNeg), w2)) else none)) else none
set_option maxRecDepth 100000 in
set_option maxHeartbeats 4000000 in
theorem wk_X6_raised_b28 (Z : CSp) (w : Wd) (x1 : Int32) (s0 : Int32) (s1 : Int32)  : Wm (EM Z) MX6_raised oIw w 28 [(0, Value.ref (aC Z 0)), (1, Value.int x1)] [Value.int s0, Value.int s1, Value.ref (aC Z 1)] (f_X6_raised_b28 x1 s0 s1 w) := by
  unfold f_X6_raised_b28
  refine r_iast (qM_1 Z w) rfl (uM_1 Z w s0) dX6_raised_28 (fun w2 => ?_)
  refine r_aload_n dX6_raised_29 0 rfl ?_
  refine r_get FX6 0 (Nat.le_of_ble_eq_true rfl) kf_X6_7 0 (qM_0 Z w2) rfl dX6_raised_30 ?_
  refine r_iload_n dX6_raised_33 1 rfl ?_
  refine r_iald 1 (qM_1 Z w2) rfl dX6_raised_34 ?_
  exact r_iretw rfl dX6_raised_35
def f_X6_raised (x1 : Int32) (x2 : Int32) (w : Wd) : Option (Int32 × Wd) :=
  if inb x1 395 = true then (jlet ((w.1 1 (x1).toNatClampNeg) + x2) (fun y1 => if y1 ≤ (4095 : Int32) then (f_X6_raised_b28 x1 y1 x1 w) else (f_X6_raised_b28 x1 (4095 : Int32) x1 w))) else none
set_option maxRecDepth 100000 in
set_option maxHeartbeats 4000000 in
theorem wk_X6_raised (Z : CSp) (w : Wd) (x1 : Int32) (x2 : Int32)  : Wm (EM Z) MX6_raised oIw w 0 [(0, Value.ref (aC Z 0)), (1, Value.int x1), (2, Value.int x2)] [] (f_X6_raised x1 x2 w) := by
  unfold f_X6_raised
  refine r_aload_n dX6_raised_0 0 rfl ?_
  refine r_get FX6 0 (Nat.le_of_ble_eq_true rfl) kf_X6_7 0 (qM_0 Z w) rfl dX6_raised_1 ?_
  refine r_iload_n dX6_raised_4 1 rfl ?_
  refine r_iald 1 (qM_1 Z w) rfl dX6_raised_5 ?_
  refine r_iload_n dX6_raised_6 2 rfl ?_
  refine r_iadd dX6_raised_7 ?_
  refine r_leti (fun y1 => ?_)
  refine r_istore_n (lv' := [(0, Value.ref (aC Z 0)), (1, Value.int x1), (2, Value.int x2), (3, Value.int y1)]) dX6_raised_8 (Nat.le_of_ble_eq_true rfl) [1, 2, 3, 0] rfl ?_
  refine r_aload_n dX6_raised_9 0 rfl ?_
  refine r_get FX6 0 (Nat.le_of_ble_eq_true rfl) kf_X6_7 0 (qM_0 Z w) rfl dX6_raised_10 ?_
  refine r_iload_n dX6_raised_13 1 rfl ?_
  refine r_iload_n dX6_raised_14 3 rfl ?_
  refine r_sipush (v := 4095) dX6_raised_15 (by decide) ?_
  refine r_icmp_le (tgt := 27) dX6_raised_18 (by decide) (fun _ => ?_) (fun _ => ?_)
  · refine r_iload_n dX6_raised_27 3 rfl ?_
    refine r_lv [0, 1] rfl ?_
    exact wk_X6_raised_b28 Z w x1 y1 x1
  · refine r_sipush (v := 4095) dX6_raised_21 (by decide) ?_
    refine r_goto (tgt := 28) dX6_raised_24 (by decide) ?_
    refine r_lv [0, 1] rfl ?_
    exact wk_X6_raised_b28 Z w x1 (4095 : Int32) x1
theorem m_X6_raised (Z : CSp) (w : Wd) (x1 : Int32) (x2 : Int32) : MetM (EM Z) yX6_raised cX6_raised 4 (some .int) { frames := 0, cells := 0, slots := 0, locals := 0 } oIw [Value.ref (aC Z 0), Value.int x1, Value.int x2] w (f_X6_raised x1 x2 w) := MetM_of (plainFor_of_name (by decide)) (Nat.le_of_ble_eq_true rfl) (wk_X6_raised Z w x1 x2)
abbrev MX6_putEcho : Mt := (cX6_putEcho, RX6, 15, some .int, { frames := 2, cells := 0, slots := 0, locals := 45 })
def f_X6_putEcho_b196 (x4 : Int32) (x5 : Int32) (x6 : Int32) (x7 : Int32) (s0 : Int32) (k49 : Int32 → Wd → Option (Int32 × Wd)) (w : Wd) : Option (Int32 × Wd) :=
  k49 (x7 + 1) w
set_option maxRecDepth 100000 in
set_option maxHeartbeats 4000000 in
theorem wk_X6_putEcho_b196 (Z : CSp) (w : Wd) (x4 : Int32) (x5 : Int32) (x6 : Int32) (x7 : Int32) (s0 : Int32) (k49 : Int32 → Wd → Option (Int32 × Wd)) (hk49 : ∀ (x7 : Int32) (w : Wd), Wm (EM Z) MX6_putEcho oIw w 49 [(0, Value.ref (aC Z 0)), (4, Value.int x4), (5, Value.int x5), (6, Value.int x6), (7, Value.int x7)] [] (k49 x7 w)) : Wm (EM Z) MX6_putEcho oIw w 196 [(0, Value.ref (aC Z 0)), (4, Value.int x4), (5, Value.int x5), (6, Value.int x6), (7, Value.int x7)] [Value.int s0] (f_X6_putEcho_b196 x4 x5 x6 x7 s0 k49 w) := by
  unfold f_X6_putEcho_b196
  refine r_istore (lv' := [(0, Value.ref (aC Z 0)), (4, Value.int x4), (5, Value.int x5), (6, Value.int x6), (7, Value.int x7), (14, Value.int s0)]) dX6_putEcho_196 (Nat.le_of_ble_eq_true rfl) [1, 2, 3, 4, 5, 0] rfl ?_
  refine r_iinc (lv' := [(0, Value.ref (aC Z 0)), (4, Value.int x4), (5, Value.int x5), (6, Value.int x6), (7, Value.int (x7 + 1)), (14, Value.int s0)]) dX6_putEcho_198 4 rfl (by rfl) (Nat.le_of_ble_eq_true rfl) [1, 2, 3, 4, 0, 5] rfl ?_
  refine r_goto (tgt := 49) dX6_putEcho_201 (by decide) ?_
  refine r_lv [0, 1, 2, 3, 4] rfl ?_
  exact hk49 (x7 + 1) w
def f_X6_putEcho_b155 (x4 : Int32) (x5 : Int32) (x6 : Int32) (x7 : Int32) (x13 : Int32) (s0 : Int32) (k49 : Int32 → Wd → Option (Int32 × Wd)) (w : Wd) : Option (Int32 × Wd) :=
  if x13 ≤ 0 then ((f_X6_raised ((x6 + ((4 : Int32) * x7)) + (3 : Int32)) (-x13) w).bind (fun z3 => f_X6_putEcho_b196 x4 x5 x6 x7 z3.1 k49 z3.2)) else ((f_X6_raised ((x6 + ((4 : Int32) * x7)) + (1 : Int32)) x13 w).bind (fun z4 => f_X6_putEcho_b196 x4 x5 x6 x7 z4.1 k49 z4.2))
set_option maxRecDepth 100000 in
set_option maxHeartbeats 4000000 in
theorem wk_X6_putEcho_b155 (Z : CSp) (w : Wd) (x4 : Int32) (x5 : Int32) (x6 : Int32) (x7 : Int32) (x13 : Int32) (s0 : Int32) (k49 : Int32 → Wd → Option (Int32 × Wd)) (hk49 : ∀ (x7 : Int32) (w : Wd), Wm (EM Z) MX6_putEcho oIw w 49 [(0, Value.ref (aC Z 0)), (4, Value.int x4), (5, Value.int x5), (6, Value.int x6), (7, Value.int x7)] [] (k49 x7 w)) : Wm (EM Z) MX6_putEcho oIw w 155 [(0, Value.ref (aC Z 0)), (4, Value.int x4), (5, Value.int x5), (6, Value.int x6), (7, Value.int x7), (13, Value.int x13)] [Value.int s0] (f_X6_putEcho_b155 x4 x5 x6 x7 x13 s0 k49 w) := by
  unfold f_X6_putEcho_b155
  refine r_istore (lv' := [(0, Value.ref (aC Z 0)), (4, Value.int x4), (5, Value.int x5), (6, Value.int x6), (7, Value.int x7), (13, Value.int x13), (14, Value.int s0)]) dX6_putEcho_155 (Nat.le_of_ble_eq_true rfl) [1, 2, 3, 4, 5, 6, 0] rfl ?_
  refine r_iload dX6_putEcho_157 5 rfl ?_
  refine r_if_le (tgt := 180) dX6_putEcho_159 (by decide) (fun _ => ?_) (fun _ => ?_)
  · refine r_aload_n dX6_putEcho_180 0 rfl ?_
    refine r_iload dX6_putEcho_181 3 rfl ?_
    refine r_iconst (v := 4) dX6_putEcho_183 (by decide) ?_
    refine r_iload dX6_putEcho_184 4 rfl ?_
    refine r_imul dX6_putEcho_186 ?_
    refine r_iadd dX6_putEcho_187 ?_
    refine r_iconst (v := 3) dX6_putEcho_188 (by decide) ?_
    refine r_iadd dX6_putEcho_189 ?_
    refine r_iload dX6_putEcho_190 5 rfl ?_
    refine r_ineg dX6_putEcho_192 ?_
    refine r_callV_Iw [Value.int ((x6 + ((4 : Int32) * x7)) + (3 : Int32)), Value.int (-x13)] cfX6_raised (m_X6_raised Z w ((x6 + ((4 : Int32) * x7)) + (3 : Int32)) (-x13)) km_X6_81 ⟨rfl, rfl, (Nat.le_of_ble_eq_true rfl), (Nat.le_of_ble_eq_true rfl)⟩ rfl rfl 0 (qM_0 Z w) rfl rfl (Nat.le_of_ble_eq_true rfl) dX6_putEcho_193 (fun z3 => ?_)
    refine r_lv [0, 1, 2, 3, 4] rfl ?_
    exact wk_X6_putEcho_b196 Z z3.2 x4 x5 x6 x7 z3.1 k49 hk49
  · refine r_aload_n dX6_putEcho_162 0 rfl ?_
    refine r_iload dX6_putEcho_163 3 rfl ?_
    refine r_iconst (v := 4) dX6_putEcho_165 (by decide) ?_
    refine r_iload dX6_putEcho_166 4 rfl ?_
    refine r_imul dX6_putEcho_168 ?_
    refine r_iadd dX6_putEcho_169 ?_
    refine r_iconst (v := 1) dX6_putEcho_170 (by decide) ?_
    refine r_iadd dX6_putEcho_171 ?_
    refine r_iload dX6_putEcho_172 5 rfl ?_
    refine r_callV_Iw [Value.int ((x6 + ((4 : Int32) * x7)) + (1 : Int32)), Value.int x13] cfX6_raised (m_X6_raised Z w ((x6 + ((4 : Int32) * x7)) + (1 : Int32)) x13) km_X6_81 ⟨rfl, rfl, (Nat.le_of_ble_eq_true rfl), (Nat.le_of_ble_eq_true rfl)⟩ rfl rfl 0 (qM_0 Z w) rfl rfl (Nat.le_of_ble_eq_true rfl) dX6_putEcho_174 (fun z4 => ?_)
    refine r_goto (tgt := 196) dX6_putEcho_177 (by decide) ?_
    refine r_lv [0, 1, 2, 3, 4] rfl ?_
    exact wk_X6_putEcho_b196 Z z4.2 x4 x5 x6 x7 z4.1 k49 hk49
def f_X6_putEcho_b49 (x4 : Int32) (x5 : Int32) (x6 : Int32) : Nat → Int32 → Wd → Option (Int32 × Wd)
  | 0, _, _ => none
  | n + 1, x7, w =>
  if (3 : Int32) ≤ x7 then ((f_X6_fullOnes x6 w).bind (fun v10 => some (v10, w))) else (if inb ((2 : Int32) + x7) 395 = true then (jlet (w.1 1 ((2 : Int32) + x7).toNatClampNeg) (fun y11 => if ¬ y11 = 0 then (jlet (jrem x4 y11) (fun y12 => if nn32 (FP.fmul (1082130432 : UInt32) (FP.i2f y12)) = true then (if nn32 (FP.fdiv (FP.fmul (1082130432 : UInt32) (FP.i2f y12)) (FP.i2f y11)) = true then (jlet (FP.fdiv (FP.fmul (1082130432 : UInt32) (FP.i2f y12)) (FP.i2f y11)) (fun y13 => (f_X6_echoParts x5 y13).bind (fun v14 => if ¬ (4096 : Int32) = 0 then (jlet ((v14 / (4096 : Int32)) - (1024 : Int32)) (fun y15 => if ¬ (4096 : Int32) = 0 then (jlet ((jrem v14 (4096 : Int32)) - (1024 : Int32)) (fun y16 => if y15 ≤ 0 then ((f_X6_raised ((x6 + ((4 : Int32) * x7)) + (2 : Int32)) (-y15) w).bind (fun z17 => f_X6_putEcho_b155 x4 x5 x6 x7 y16 z17.1 (f_X6_putEcho_b49 x4 x5 x6 n) z17.2)) else ((f_X6_raised (x6 + ((4 : Int32) * x7)) y15 w).bind (fun z18 => f_X6_putEcho_b155 x4 x5 x6 x7 y16 z18.1 (f_X6_putEcho_b49 x4 x5 x6 n) z18.2)))) else none)) else none))) else none) else none)) else none)) else none)
set_option maxRecDepth 100000 in
set_option maxHeartbeats 4000000 in
theorem wk_X6_putEcho_b49 (Z : CSp) (x4 : Int32) (x5 : Int32) (x6 : Int32)  : ∀ (n : Nat) (x7 : Int32) (w : Wd), Wm (EM Z) MX6_putEcho oIw w 49 [(0, Value.ref (aC Z 0)), (4, Value.int x4), (5, Value.int x5), (6, Value.int x6), (7, Value.int x7)] [] (f_X6_putEcho_b49 x4 x5 x6 n x7 w) := by
  intro n
  induction n with
  | zero =>
    intro x7 w
    exact r_none
  | succ n ih =>
    intro x7 w
    rw [f_X6_putEcho_b49]
    refine r_iload dX6_putEcho_49 4 rfl ?_
    refine r_iconst (v := 3) dX6_putEcho_51 (by decide) ?_
    refine r_icmp_ge (tgt := 204) dX6_putEcho_52 (by decide) (fun _ => ?_) (fun _ => ?_)
    · refine r_aload_n dX6_putEcho_204 0 rfl ?_
      refine r_iload dX6_putEcho_205 3 rfl ?_
      refine r_callV_I [Value.int x6] cfX6_fullOnes (m_X6_fullOnes Z w x6) km_X6_85 ⟨rfl, rfl, (Nat.le_of_ble_eq_true rfl), (Nat.le_of_ble_eq_true rfl)⟩ rfl rfl 0 (qM_0 Z w) rfl rfl (Nat.le_of_ble_eq_true rfl) dX6_putEcho_207 (fun v10 => ?_)
      exact r_iretw rfl dX6_putEcho_210
    · refine r_aload_n dX6_putEcho_55 0 rfl ?_
      refine r_get FX6 0 (Nat.le_of_ble_eq_true rfl) kf_X6_7 0 (qM_0 Z w) rfl dX6_putEcho_56 ?_
      refine r_iconst (v := 2) dX6_putEcho_59 (by decide) ?_
      refine r_iload dX6_putEcho_60 4 rfl ?_
      refine r_iadd dX6_putEcho_62 ?_
      refine r_iald 1 (qM_1 Z w) rfl dX6_putEcho_63 ?_
      refine r_leti (fun y11 => ?_)
      refine r_istore (lv' := [(0, Value.ref (aC Z 0)), (4, Value.int x4), (5, Value.int x5), (6, Value.int x6), (7, Value.int x7), (8, Value.int y11)]) dX6_putEcho_64 (Nat.le_of_ble_eq_true rfl) [1, 2, 3, 4, 5, 0] rfl ?_
      refine r_iload dX6_putEcho_66 1 rfl ?_
      refine r_iload dX6_putEcho_68 5 rfl ?_
      refine r_irem dX6_putEcho_70 ?_
      refine r_leti (fun y12 => ?_)
      refine r_istore (lv' := [(0, Value.ref (aC Z 0)), (4, Value.int x4), (5, Value.int x5), (6, Value.int x6), (7, Value.int x7), (8, Value.int y11), (9, Value.int y12)]) dX6_putEcho_71 (Nat.le_of_ble_eq_true rfl) [1, 2, 3, 4, 5, 6, 0] rfl ?_
      refine r_ldcf dX6_putEcho_73 kk_X6_76 ?_
      refine r_iload dX6_putEcho_75 6 rfl ?_
      refine r_i2f dX6_putEcho_77 ?_
      refine r_fmul dX6_putEcho_78 ?_
      refine r_iload dX6_putEcho_79 5 rfl ?_
      refine r_i2f dX6_putEcho_81 ?_
      refine r_fdiv dX6_putEcho_82 ?_
      refine r_letf (fun y13 => ?_)
      refine r_fstore (lv' := [(0, Value.ref (aC Z 0)), (4, Value.int x4), (5, Value.int x5), (6, Value.int x6), (7, Value.int x7), (8, Value.int y11), (9, Value.int y12), (10, Value.float y13)]) dX6_putEcho_83 (Nat.le_of_ble_eq_true rfl) [1, 2, 3, 4, 5, 6, 7, 0] rfl ?_
      refine r_iload dX6_putEcho_85 2 rfl ?_
      refine r_fload dX6_putEcho_87 7 rfl ?_
      refine r_callS_I [Value.int x5, Value.float y13] cfX6_echoParts (m_X6_echoParts Z w x5 y13) km_X6_77 ⟨rfl, rfl, (Nat.le_of_ble_eq_true rfl), (Nat.le_of_ble_eq_true rfl)⟩ rfl rfl (Nat.le_of_ble_eq_true rfl) dX6_putEcho_89 (fun v14 => ?_)
      refine r_istore (lv' := [(0, Value.ref (aC Z 0)), (4, Value.int x4), (5, Value.int x5), (6, Value.int x6), (7, Value.int x7), (8, Value.int y11), (9, Value.int y12), (10, Value.float y13), (11, Value.int v14)]) dX6_putEcho_92 (Nat.le_of_ble_eq_true rfl) [1, 2, 3, 4, 5, 6, 7, 8, 0] rfl ?_
      refine r_iload dX6_putEcho_94 8 rfl ?_
      refine r_sipush (v := 4096) dX6_putEcho_96 (by decide) ?_
      refine r_idiv dX6_putEcho_99 ?_
      refine r_sipush (v := 1024) dX6_putEcho_100 (by decide) ?_
      refine r_isub dX6_putEcho_103 ?_
      refine r_leti (fun y15 => ?_)
      refine r_istore (lv' := [(0, Value.ref (aC Z 0)), (4, Value.int x4), (5, Value.int x5), (6, Value.int x6), (7, Value.int x7), (8, Value.int y11), (9, Value.int y12), (10, Value.float y13), (11, Value.int v14), (12, Value.int y15)]) dX6_putEcho_104 (Nat.le_of_ble_eq_true rfl) [1, 2, 3, 4, 5, 6, 7, 8, 9, 0] rfl ?_
      refine r_iload dX6_putEcho_106 8 rfl ?_
      refine r_sipush (v := 4096) dX6_putEcho_108 (by decide) ?_
      refine r_irem dX6_putEcho_111 ?_
      refine r_sipush (v := 1024) dX6_putEcho_112 (by decide) ?_
      refine r_isub dX6_putEcho_115 ?_
      refine r_leti (fun y16 => ?_)
      refine r_istore (lv' := [(0, Value.ref (aC Z 0)), (4, Value.int x4), (5, Value.int x5), (6, Value.int x6), (7, Value.int x7), (8, Value.int y11), (9, Value.int y12), (10, Value.float y13), (11, Value.int v14), (12, Value.int y15), (13, Value.int y16)]) dX6_putEcho_116 (Nat.le_of_ble_eq_true rfl) [1, 2, 3, 4, 5, 6, 7, 8, 9, 10, 0] rfl ?_
      refine r_iload dX6_putEcho_118 9 rfl ?_
      refine r_if_le (tgt := 139) dX6_putEcho_120 (by decide) (fun _ => ?_) (fun _ => ?_)
      · refine r_aload_n dX6_putEcho_139 0 rfl ?_
        refine r_iload dX6_putEcho_140 3 rfl ?_
        refine r_iconst (v := 4) dX6_putEcho_142 (by decide) ?_
        refine r_iload dX6_putEcho_143 4 rfl ?_
        refine r_imul dX6_putEcho_145 ?_
        refine r_iadd dX6_putEcho_146 ?_
        refine r_iconst (v := 2) dX6_putEcho_147 (by decide) ?_
        refine r_iadd dX6_putEcho_148 ?_
        refine r_iload dX6_putEcho_149 9 rfl ?_
        refine r_ineg dX6_putEcho_151 ?_
        refine r_callV_Iw [Value.int ((x6 + ((4 : Int32) * x7)) + (2 : Int32)), Value.int (-y15)] cfX6_raised (m_X6_raised Z w ((x6 + ((4 : Int32) * x7)) + (2 : Int32)) (-y15)) km_X6_81 ⟨rfl, rfl, (Nat.le_of_ble_eq_true rfl), (Nat.le_of_ble_eq_true rfl)⟩ rfl rfl 0 (qM_0 Z w) rfl rfl (Nat.le_of_ble_eq_true rfl) dX6_putEcho_152 (fun z17 => ?_)
        refine r_lv [0, 1, 2, 3, 4, 10] rfl ?_
        exact wk_X6_putEcho_b155 Z z17.2 x4 x5 x6 x7 y16 z17.1 _ (ih)
      · refine r_aload_n dX6_putEcho_123 0 rfl ?_
        refine r_iload dX6_putEcho_124 3 rfl ?_
        refine r_iconst (v := 4) dX6_putEcho_126 (by decide) ?_
        refine r_iload dX6_putEcho_127 4 rfl ?_
        refine r_imul dX6_putEcho_129 ?_
        refine r_iadd dX6_putEcho_130 ?_
        refine r_iload dX6_putEcho_131 9 rfl ?_
        refine r_callV_Iw [Value.int (x6 + ((4 : Int32) * x7)), Value.int y15] cfX6_raised (m_X6_raised Z w (x6 + ((4 : Int32) * x7)) y15) km_X6_81 ⟨rfl, rfl, (Nat.le_of_ble_eq_true rfl), (Nat.le_of_ble_eq_true rfl)⟩ rfl rfl 0 (qM_0 Z w) rfl rfl (Nat.le_of_ble_eq_true rfl) dX6_putEcho_133 (fun z18 => ?_)
        refine r_goto (tgt := 155) dX6_putEcho_136 (by decide) ?_
        refine r_lv [0, 1, 2, 3, 4, 10] rfl ?_
        exact wk_X6_putEcho_b155 Z z18.2 x4 x5 x6 x7 y16 z18.1 _ (ih)
def f_X6_putEcho_b34 (w : Wd) : Option (Int32 × Wd) :=
  some ((-10002 : Int32), w)
set_option maxRecDepth 100000 in
set_option maxHeartbeats 4000000 in
theorem wk_X6_putEcho_b34 (Z : CSp) (w : Wd)   : Wm (EM Z) MX6_putEcho oIw w 34 [] [] (f_X6_putEcho_b34 w) := by
  unfold f_X6_putEcho_b34
  refine r_sipush (v := -10002) dX6_putEcho_34 (by decide) ?_
  exact r_iretw rfl dX6_putEcho_37
def f_X6_putEcho (x1 : Int32) (x2 : Int32) (x3 : Int32) (x4 : Int32) (x5 : Int32) (w : Wd) : Option (Int32 × Wd) :=
  (f_X6_isCell x1 x2 x3 w).bind (fun v1 => if v1 = 0 then (f_X6_putEcho_b34 w) else ((f_X6_in x4 (0 : Int32) (9999 : Int32)).bind (fun v2 => if v2 = 0 then (f_X6_putEcho_b34 w) else ((f_X6_in x5 (1 : Int32) (1000 : Int32)).bind (fun v3 => if v3 = 0 then (f_X6_putEcho_b34 w) else ((f_X6_cellPlace x1 x2 x3).bind (fun v4 => f_X6_putEcho_b49 x4 x5 v4 FUEL (0 : Int32) w)))))))
set_option maxRecDepth 100000 in
set_option maxHeartbeats 4000000 in
theorem wk_X6_putEcho (Z : CSp) (w : Wd) (x1 : Int32) (x2 : Int32) (x3 : Int32) (x4 : Int32) (x5 : Int32)  : Wm (EM Z) MX6_putEcho oIw w 0 [(0, Value.ref (aC Z 0)), (1, Value.int x1), (2, Value.int x2), (3, Value.int x3), (4, Value.int x4), (5, Value.int x5)] [] (f_X6_putEcho x1 x2 x3 x4 x5 w) := by
  unfold f_X6_putEcho
  refine r_aload_n dX6_putEcho_0 0 rfl ?_
  refine r_iload_n dX6_putEcho_1 1 rfl ?_
  refine r_iload_n dX6_putEcho_2 2 rfl ?_
  refine r_iload_n dX6_putEcho_3 3 rfl ?_
  refine r_callV_I [Value.int x1, Value.int x2, Value.int x3] cfX6_isCell (m_X6_isCell Z w x1 x2 x3) km_X6_69 ⟨rfl, rfl, (Nat.le_of_ble_eq_true rfl), (Nat.le_of_ble_eq_true rfl)⟩ rfl rfl 0 (qM_0 Z w) rfl rfl (Nat.le_of_ble_eq_true rfl) dX6_putEcho_4 (fun v1 => ?_)
  refine r_if_eq (tgt := 34) dX6_putEcho_7 (by decide) (fun _ => ?_) (fun _ => ?_)
  · refine r_lv [] rfl ?_
    exact wk_X6_putEcho_b34 Z w
  · refine r_iload dX6_putEcho_10 4 rfl ?_
    refine r_iconst (v := 0) dX6_putEcho_12 (by decide) ?_
    refine r_sipush (v := 9999) dX6_putEcho_13 (by decide) ?_
    refine r_callS_I [Value.int x4, Value.int (0 : Int32), Value.int (9999 : Int32)] cfX6_in (m_X6_in Z w x4 (0 : Int32) (9999 : Int32)) km_X6_60 ⟨rfl, rfl, (Nat.le_of_ble_eq_true rfl), (Nat.le_of_ble_eq_true rfl)⟩ rfl rfl (Nat.le_of_ble_eq_true rfl) dX6_putEcho_16 (fun v2 => ?_)
    refine r_if_eq (tgt := 34) dX6_putEcho_19 (by decide) (fun _ => ?_) (fun _ => ?_)
    · refine r_lv [] rfl ?_
      exact wk_X6_putEcho_b34 Z w
    · refine r_iload dX6_putEcho_22 5 rfl ?_
      refine r_iconst (v := 1) dX6_putEcho_24 (by decide) ?_
      refine r_sipush (v := 1000) dX6_putEcho_25 (by decide) ?_
      refine r_callS_I [Value.int x5, Value.int (1 : Int32), Value.int (1000 : Int32)] cfX6_in (m_X6_in Z w x5 (1 : Int32) (1000 : Int32)) km_X6_60 ⟨rfl, rfl, (Nat.le_of_ble_eq_true rfl), (Nat.le_of_ble_eq_true rfl)⟩ rfl rfl (Nat.le_of_ble_eq_true rfl) dX6_putEcho_28 (fun v3 => ?_)
      refine r_if_ne (tgt := 38) dX6_putEcho_31 (by decide) (fun _ => ?_) (fun _ => ?_)
      · refine r_iload_n dX6_putEcho_38 1 rfl ?_
        refine r_iload_n dX6_putEcho_39 2 rfl ?_
        refine r_iload_n dX6_putEcho_40 3 rfl ?_
        refine r_callS_I [Value.int x1, Value.int x2, Value.int x3] cfX6_cellPlace (m_X6_cellPlace Z w x1 x2 x3) km_X6_72 ⟨rfl, rfl, (Nat.le_of_ble_eq_true rfl), (Nat.le_of_ble_eq_true rfl)⟩ rfl rfl (Nat.le_of_ble_eq_true rfl) dX6_putEcho_41 (fun v4 => ?_)
        refine r_istore (lv' := [(0, Value.ref (aC Z 0)), (1, Value.int x1), (2, Value.int x2), (3, Value.int x3), (4, Value.int x4), (5, Value.int x5), (6, Value.int v4)]) dX6_putEcho_44 (Nat.le_of_ble_eq_true rfl) [1, 2, 3, 4, 5, 6, 0] rfl ?_
        refine r_iconst (v := 0) dX6_putEcho_46 (by decide) ?_
        refine r_istore (lv' := [(0, Value.ref (aC Z 0)), (1, Value.int x1), (2, Value.int x2), (3, Value.int x3), (4, Value.int x4), (5, Value.int x5), (6, Value.int v4), (7, Value.int (0 : Int32))]) dX6_putEcho_47 (Nat.le_of_ble_eq_true rfl) [1, 2, 3, 4, 5, 6, 7, 0] rfl ?_
        refine r_lv [0, 4, 5, 6, 7] rfl ?_
        exact wk_X6_putEcho_b49 Z x4 x5 v4 FUEL (0 : Int32) w
      · refine r_lv [] rfl ?_
        exact wk_X6_putEcho_b34 Z w
theorem m_X6_putEcho (Z : CSp) (w : Wd) (x1 : Int32) (x2 : Int32) (x3 : Int32) (x4 : Int32) (x5 : Int32) : MetM (EM Z) yX6_putEcho cX6_putEcho 15 (some .int) { frames := 2, cells := 0, slots := 0, locals := 45 } oIw [Value.ref (aC Z 0), Value.int x1, Value.int x2, Value.int x3, Value.int x4, Value.int x5] w (f_X6_putEcho x1 x2 x3 x4 x5 w) := MetM_of (plainFor_of_name (by decide)) (Nat.le_of_ble_eq_true rfl) (wk_X6_putEcho Z w x1 x2 x3 x4 x5)
abbrev MX6_putGrid : Mt := (cX6_putGrid, RX6, 5, some .int, { frames := 1, cells := 0, slots := 0, locals := 22 })
def f_X6_putGrid_b54 (x3 : Int32) : Nat → Int32 → Wd → Option (Int32 × Wd)
  | 0, _, _ => none
  | n + 1, x4, w =>
  if (395 : Int32) ≤ x4 then (some (x3, w)) else (if inb x4 395 = true then (wput w 1 (x4).toNatClampNeg (0 : Int32) (fun w2 => f_X6_putGrid_b54 x3 n (x4 + 1) w2)) else none)
set_option maxRecDepth 100000 in
set_option maxHeartbeats 4000000 in
theorem wk_X6_putGrid_b54 (Z : CSp) (x3 : Int32)  : ∀ (n : Nat) (x4 : Int32) (w : Wd), Wm (EM Z) MX6_putGrid oIw w 54 [(0, Value.ref (aC Z 0)), (3, Value.int x3), (4, Value.int x4)] [] (f_X6_putGrid_b54 x3 n x4 w) := by
  intro n
  induction n with
  | zero =>
    intro x4 w
    exact r_none
  | succ n ih =>
    intro x4 w
    rw [f_X6_putGrid_b54]
    refine r_iload dX6_putGrid_54 2 rfl ?_
    refine r_sipush (v := 395) dX6_putGrid_56 (by decide) ?_
    refine r_icmp_ge (tgt := 76) dX6_putGrid_59 (by decide) (fun _ => ?_) (fun _ => ?_)
    · refine r_iload_n dX6_putGrid_76 1 rfl ?_
      exact r_iretw rfl dX6_putGrid_77
    · refine r_aload_n dX6_putGrid_62 0 rfl ?_
      refine r_get FX6 0 (Nat.le_of_ble_eq_true rfl) kf_X6_7 0 (qM_0 Z w) rfl dX6_putGrid_63 ?_
      refine r_iload dX6_putGrid_66 2 rfl ?_
      refine r_iconst (v := 0) dX6_putGrid_68 (by decide) ?_
      refine r_iast (qM_1 Z w) rfl (uM_1 Z w (0 : Int32)) dX6_putGrid_69 (fun w2 => ?_)
      refine r_iinc (lv' := [(0, Value.ref (aC Z 0)), (3, Value.int x3), (4, Value.int (x4 + 1))]) dX6_putGrid_70 2 rfl (by rfl) (Nat.le_of_ble_eq_true rfl) [1, 2, 0] rfl ?_
      refine r_goto (tgt := 54) dX6_putGrid_73 (by decide) ?_
      exact ih (x4 + 1) w2
def f_X6_putGrid_b18 (w : Wd) : Option (Int32 × Wd) :=
  some ((-10002 : Int32), w)
set_option maxRecDepth 100000 in
set_option maxHeartbeats 4000000 in
theorem wk_X6_putGrid_b18 (Z : CSp) (w : Wd)   : Wm (EM Z) MX6_putGrid oIw w 18 [] [] (f_X6_putGrid_b18 w) := by
  unfold f_X6_putGrid_b18
  refine r_sipush (v := -10002) dX6_putGrid_18 (by decide) ?_
  exact r_iretw rfl dX6_putGrid_21
def f_X6_putGrid (x1 : Int32) (x2 : Int32) (w : Wd) : Option (Int32 × Wd) :=
  (f_X6_in x1 (1 : Int32) (4 : Int32)).bind (fun v1 => if v1 = 0 then (f_X6_putGrid_b18 w) else ((f_X6_in x2 (1 : Int32) (4 : Int32)).bind (fun v2 => if v2 = 0 then (f_X6_putGrid_b18 w) else (if inb (0 : Int32) 395 = true then (if inb (1 : Int32) 395 = true then (jlet ((w.1 1 ((0 : Int32)).toNatClampNeg) * (w.1 1 ((1 : Int32)).toNatClampNeg)) (fun y3 => if inb (0 : Int32) 395 = true then (wput w 1 ((0 : Int32)).toNatClampNeg x1 (fun w4 => if inb (1 : Int32) 395 = true then (wput w4 1 ((1 : Int32)).toNatClampNeg x2 (fun w5 => f_X6_putGrid_b54 y3 FUEL (11 : Int32) w5)) else none)) else none)) else none) else none))))
set_option maxRecDepth 100000 in
set_option maxHeartbeats 4000000 in
theorem wk_X6_putGrid (Z : CSp) (w : Wd) (x1 : Int32) (x2 : Int32)  : Wm (EM Z) MX6_putGrid oIw w 0 [(0, Value.ref (aC Z 0)), (1, Value.int x1), (2, Value.int x2)] [] (f_X6_putGrid x1 x2 w) := by
  unfold f_X6_putGrid
  refine r_iload_n dX6_putGrid_0 1 rfl ?_
  refine r_iconst (v := 1) dX6_putGrid_1 (by decide) ?_
  refine r_iconst (v := 4) dX6_putGrid_2 (by decide) ?_
  refine r_callS_I [Value.int x1, Value.int (1 : Int32), Value.int (4 : Int32)] cfX6_in (m_X6_in Z w x1 (1 : Int32) (4 : Int32)) km_X6_60 ⟨rfl, rfl, (Nat.le_of_ble_eq_true rfl), (Nat.le_of_ble_eq_true rfl)⟩ rfl rfl (Nat.le_of_ble_eq_true rfl) dX6_putGrid_3 (fun v1 => ?_)
  refine r_if_eq (tgt := 18) dX6_putGrid_6 (by decide) (fun _ => ?_) (fun _ => ?_)
  · refine r_lv [] rfl ?_
    exact wk_X6_putGrid_b18 Z w
  · refine r_iload_n dX6_putGrid_9 2 rfl ?_
    refine r_iconst (v := 1) dX6_putGrid_10 (by decide) ?_
    refine r_iconst (v := 4) dX6_putGrid_11 (by decide) ?_
    refine r_callS_I [Value.int x2, Value.int (1 : Int32), Value.int (4 : Int32)] cfX6_in (m_X6_in Z w x2 (1 : Int32) (4 : Int32)) km_X6_60 ⟨rfl, rfl, (Nat.le_of_ble_eq_true rfl), (Nat.le_of_ble_eq_true rfl)⟩ rfl rfl (Nat.le_of_ble_eq_true rfl) dX6_putGrid_12 (fun v2 => ?_)
    refine r_if_ne (tgt := 22) dX6_putGrid_15 (by decide) (fun _ => ?_) (fun _ => ?_)
    · refine r_aload_n dX6_putGrid_22 0 rfl ?_
      refine r_get FX6 0 (Nat.le_of_ble_eq_true rfl) kf_X6_7 0 (qM_0 Z w) rfl dX6_putGrid_23 ?_
      refine r_iconst (v := 0) dX6_putGrid_26 (by decide) ?_
      refine r_iald 1 (qM_1 Z w) rfl dX6_putGrid_27 ?_
      refine r_aload_n dX6_putGrid_28 0 rfl ?_
      refine r_get FX6 0 (Nat.le_of_ble_eq_true rfl) kf_X6_7 0 (qM_0 Z w) rfl dX6_putGrid_29 ?_
      refine r_iconst (v := 1) dX6_putGrid_32 (by decide) ?_
      refine r_iald 1 (qM_1 Z w) rfl dX6_putGrid_33 ?_
      refine r_imul dX6_putGrid_34 ?_
      refine r_leti (fun y3 => ?_)
      refine r_istore_n (lv' := [(0, Value.ref (aC Z 0)), (1, Value.int x1), (2, Value.int x2), (3, Value.int y3)]) dX6_putGrid_35 (Nat.le_of_ble_eq_true rfl) [1, 2, 3, 0] rfl ?_
      refine r_aload_n dX6_putGrid_36 0 rfl ?_
      refine r_get FX6 0 (Nat.le_of_ble_eq_true rfl) kf_X6_7 0 (qM_0 Z w) rfl dX6_putGrid_37 ?_
      refine r_iconst (v := 0) dX6_putGrid_40 (by decide) ?_
      refine r_iload_n dX6_putGrid_41 1 rfl ?_
      refine r_iast (qM_1 Z w) rfl (uM_1 Z w x1) dX6_putGrid_42 (fun w4 => ?_)
      refine r_aload_n dX6_putGrid_43 0 rfl ?_
      refine r_get FX6 0 (Nat.le_of_ble_eq_true rfl) kf_X6_7 0 (qM_0 Z w4) rfl dX6_putGrid_44 ?_
      refine r_iconst (v := 1) dX6_putGrid_47 (by decide) ?_
      refine r_iload_n dX6_putGrid_48 2 rfl ?_
      refine r_iast (qM_1 Z w4) rfl (uM_1 Z w4 x2) dX6_putGrid_49 (fun w5 => ?_)
      refine r_bipush (v := 11) dX6_putGrid_50 (by decide) ?_
      refine r_istore (lv' := [(0, Value.ref (aC Z 0)), (1, Value.int x1), (2, Value.int x2), (3, Value.int y3), (4, Value.int (11 : Int32))]) dX6_putGrid_52 (Nat.le_of_ble_eq_true rfl) [1, 2, 3, 4, 0] rfl ?_
      refine r_lv [0, 3, 4] rfl ?_
      exact wk_X6_putGrid_b54 Z y3 FUEL (11 : Int32) w5
    · refine r_lv [] rfl ?_
      exact wk_X6_putGrid_b18 Z w
theorem m_X6_putGrid (Z : CSp) (w : Wd) (x1 : Int32) (x2 : Int32) : MetM (EM Z) yX6_putGrid cX6_putGrid 5 (some .int) { frames := 1, cells := 0, slots := 0, locals := 22 } oIw [Value.ref (aC Z 0), Value.int x1, Value.int x2] w (f_X6_putGrid x1 x2 w) := MetM_of (plainFor_of_name (by decide)) (Nat.le_of_ble_eq_true rfl) (wk_X6_putGrid Z w x1 x2)
abbrev MX6_maySet : Mt := (cX6_maySet, RX6, 2, some .boolean, { frames := 1, cells := 0, slots := 0, locals := 22 })
def f_X6_maySet (x0 : Int32) (x1 : Int32) : Option (Int32) :=
  if x0 = 0 then ((f_X6_in x1 (0 : Int32) (50 : Int32)).bind (fun v1 => if zb v1 = true then some v1 else none)) else (if x0 = 1 then ((f_X6_in x1 (0 : Int32) (2000 : Int32)).bind (fun v2 => if zb v2 = true then some v2 else none)) else (if x0 = 2 then ((f_X6_in x1 (1 : Int32) (4095 : Int32)).bind (fun v3 => if zb v3 = true then some v3 else none)) else (if x0 = 3 then ((f_X6_in x1 (100 : Int32) (9999 : Int32)).bind (fun v4 => if zb v4 = true then some v4 else none)) else (if x0 = 4 then ((f_X6_in x1 (1 : Int32) (500 : Int32)).bind (fun v5 => if zb v5 = true then some v5 else none)) else (if x0 = 5 then ((f_X6_in x1 (0 : Int32) (500 : Int32)).bind (fun v6 => if zb v6 = true then some v6 else none)) else (if zb (0 : Int32) = true then some (0 : Int32) else none))))))
set_option maxRecDepth 100000 in
set_option maxHeartbeats 4000000 in
theorem wk_X6_maySet (Z : CSp) (w : Wd) (x0 : Int32) (x1 : Int32)  : Wm (EM Z) MX6_maySet (oI w) w 0 [(0, Value.int x0), (1, Value.int x1)] [] (f_X6_maySet x0 x1) := by
  unfold f_X6_maySet
  refine r_iload_n dX6_maySet_0 0 rfl ?_
  refine r_split (fun h0 => ?_) (fun h0 => ?_)
  · refine r_tin (k := 0) (tgt := 40) dX6_maySet_1 h0 (by decide) ?_
    refine r_iload_n dX6_maySet_40 1 rfl ?_
    refine r_iconst (v := 0) dX6_maySet_41 (by decide) ?_
    refine r_bipush (v := 50) dX6_maySet_42 (by decide) ?_
    refine r_callS_I [Value.int x1, Value.int (0 : Int32), Value.int (50 : Int32)] cfX6_in (m_X6_in Z w x1 (0 : Int32) (50 : Int32)) km_X6_60 ⟨rfl, rfl, (Nat.le_of_ble_eq_true rfl), (Nat.le_of_ble_eq_true rfl)⟩ rfl rfl (Nat.le_of_ble_eq_true rfl) dX6_maySet_44 (fun v1 => ?_)
    exact r_zret rfl dX6_maySet_47
  refine r_split (fun h1 => ?_) (fun h1 => ?_)
  · refine r_tin (k := 1) (tgt := 48) dX6_maySet_1 h1 (by decide) ?_
    refine r_iload_n dX6_maySet_48 1 rfl ?_
    refine r_iconst (v := 0) dX6_maySet_49 (by decide) ?_
    refine r_sipush (v := 2000) dX6_maySet_50 (by decide) ?_
    refine r_callS_I [Value.int x1, Value.int (0 : Int32), Value.int (2000 : Int32)] cfX6_in (m_X6_in Z w x1 (0 : Int32) (2000 : Int32)) km_X6_60 ⟨rfl, rfl, (Nat.le_of_ble_eq_true rfl), (Nat.le_of_ble_eq_true rfl)⟩ rfl rfl (Nat.le_of_ble_eq_true rfl) dX6_maySet_53 (fun v2 => ?_)
    exact r_zret rfl dX6_maySet_56
  refine r_split (fun h2 => ?_) (fun h2 => ?_)
  · refine r_tin (k := 2) (tgt := 57) dX6_maySet_1 h2 (by decide) ?_
    refine r_iload_n dX6_maySet_57 1 rfl ?_
    refine r_iconst (v := 1) dX6_maySet_58 (by decide) ?_
    refine r_sipush (v := 4095) dX6_maySet_59 (by decide) ?_
    refine r_callS_I [Value.int x1, Value.int (1 : Int32), Value.int (4095 : Int32)] cfX6_in (m_X6_in Z w x1 (1 : Int32) (4095 : Int32)) km_X6_60 ⟨rfl, rfl, (Nat.le_of_ble_eq_true rfl), (Nat.le_of_ble_eq_true rfl)⟩ rfl rfl (Nat.le_of_ble_eq_true rfl) dX6_maySet_62 (fun v3 => ?_)
    exact r_zret rfl dX6_maySet_65
  refine r_split (fun h3 => ?_) (fun h3 => ?_)
  · refine r_tin (k := 3) (tgt := 66) dX6_maySet_1 h3 (by decide) ?_
    refine r_iload_n dX6_maySet_66 1 rfl ?_
    refine r_bipush (v := 100) dX6_maySet_67 (by decide) ?_
    refine r_sipush (v := 9999) dX6_maySet_69 (by decide) ?_
    refine r_callS_I [Value.int x1, Value.int (100 : Int32), Value.int (9999 : Int32)] cfX6_in (m_X6_in Z w x1 (100 : Int32) (9999 : Int32)) km_X6_60 ⟨rfl, rfl, (Nat.le_of_ble_eq_true rfl), (Nat.le_of_ble_eq_true rfl)⟩ rfl rfl (Nat.le_of_ble_eq_true rfl) dX6_maySet_72 (fun v4 => ?_)
    exact r_zret rfl dX6_maySet_75
  refine r_split (fun h4 => ?_) (fun h4 => ?_)
  · refine r_tin (k := 4) (tgt := 76) dX6_maySet_1 h4 (by decide) ?_
    refine r_iload_n dX6_maySet_76 1 rfl ?_
    refine r_iconst (v := 1) dX6_maySet_77 (by decide) ?_
    refine r_sipush (v := 500) dX6_maySet_78 (by decide) ?_
    refine r_callS_I [Value.int x1, Value.int (1 : Int32), Value.int (500 : Int32)] cfX6_in (m_X6_in Z w x1 (1 : Int32) (500 : Int32)) km_X6_60 ⟨rfl, rfl, (Nat.le_of_ble_eq_true rfl), (Nat.le_of_ble_eq_true rfl)⟩ rfl rfl (Nat.le_of_ble_eq_true rfl) dX6_maySet_81 (fun v5 => ?_)
    exact r_zret rfl dX6_maySet_84
  refine r_split (fun h5 => ?_) (fun h5 => ?_)
  · refine r_tin (k := 5) (tgt := 85) dX6_maySet_1 h5 (by decide) ?_
    refine r_iload_n dX6_maySet_85 1 rfl ?_
    refine r_iconst (v := 0) dX6_maySet_86 (by decide) ?_
    refine r_sipush (v := 500) dX6_maySet_87 (by decide) ?_
    refine r_callS_I [Value.int x1, Value.int (0 : Int32), Value.int (500 : Int32)] cfX6_in (m_X6_in Z w x1 (0 : Int32) (500 : Int32)) km_X6_60 ⟨rfl, rfl, (Nat.le_of_ble_eq_true rfl), (Nat.le_of_ble_eq_true rfl)⟩ rfl rfl (Nat.le_of_ble_eq_true rfl) dX6_maySet_90 (fun v6 => ?_)
    exact r_zret rfl dX6_maySet_93
  refine r_tout (tgt := 94) dX6_maySet_1 (by have g0 := lv_neT h0 (a := 0) (by decide); have g1 := lv_neT h1 (a := 1) (by decide); have g2 := lv_neT h2 (a := 2) (by decide); have g3 := lv_neT h3 (a := 3) (by decide); have g4 := lv_neT h4 (a := 4) (by decide); have g5 := lv_neT h5 (a := 5) (by decide); omega) (by decide) ?_
  refine r_iconst (v := 0) dX6_maySet_94 (by decide) ?_
  exact r_zret rfl dX6_maySet_95
theorem m_X6_maySet (Z : CSp) (w : Wd) (x0 : Int32) (x1 : Int32) : MetM (EM Z) yX6_maySet cX6_maySet 2 (some .boolean) { frames := 1, cells := 0, slots := 0, locals := 22 } (oI w) [Value.int x0, Value.int x1] w (f_X6_maySet x0 x1) := MetM_of (plainFor_of_name (by decide)) (Nat.le_of_ble_eq_true rfl) (wk_X6_maySet Z w x0 x1)
abbrev MX6_putSetting : Mt := (cX6_putSetting, RX6, 4, some .int, { frames := 2, cells := 0, slots := 0, locals := 43 })
def f_X6_putSetting (x1 : Int32) (x2 : Int32) (w : Wd) : Option (Int32 × Wd) :=
  (f_X6_maySet x1 x2).bind (fun v1 => if v1 = 0 then (some ((-10002 : Int32), w)) else (if inb ((5 : Int32) + x1) 395 = true then (jlet (w.1 1 ((5 : Int32) + x1).toNatClampNeg) (fun y2 => if inb ((5 : Int32) + x1) 395 = true then (wput w 1 ((5 : Int32) + x1).toNatClampNeg x2 (fun w3 => some (y2, w3))) else none)) else none))
set_option maxRecDepth 100000 in
set_option maxHeartbeats 4000000 in
theorem wk_X6_putSetting (Z : CSp) (w : Wd) (x1 : Int32) (x2 : Int32)  : Wm (EM Z) MX6_putSetting oIw w 0 [(0, Value.ref (aC Z 0)), (1, Value.int x1), (2, Value.int x2)] [] (f_X6_putSetting x1 x2 w) := by
  unfold f_X6_putSetting
  refine r_iload_n dX6_putSetting_0 1 rfl ?_
  refine r_iload_n dX6_putSetting_1 2 rfl ?_
  refine r_callS_I [Value.int x1, Value.int x2] cfX6_maySet (m_X6_maySet Z w x1 x2) km_X6_64 ⟨rfl, rfl, (Nat.le_of_ble_eq_true rfl), (Nat.le_of_ble_eq_true rfl)⟩ rfl rfl (Nat.le_of_ble_eq_true rfl) dX6_putSetting_2 (fun v1 => ?_)
  refine r_if_ne (tgt := 12) dX6_putSetting_5 (by decide) (fun _ => ?_) (fun _ => ?_)
  · refine r_aload_n dX6_putSetting_12 0 rfl ?_
    refine r_get FX6 0 (Nat.le_of_ble_eq_true rfl) kf_X6_7 0 (qM_0 Z w) rfl dX6_putSetting_13 ?_
    refine r_iconst (v := 5) dX6_putSetting_16 (by decide) ?_
    refine r_iload_n dX6_putSetting_17 1 rfl ?_
    refine r_iadd dX6_putSetting_18 ?_
    refine r_iald 1 (qM_1 Z w) rfl dX6_putSetting_19 ?_
    refine r_leti (fun y2 => ?_)
    refine r_istore_n (lv' := [(0, Value.ref (aC Z 0)), (1, Value.int x1), (2, Value.int x2), (3, Value.int y2)]) dX6_putSetting_20 (Nat.le_of_ble_eq_true rfl) [1, 2, 3, 0] rfl ?_
    refine r_aload_n dX6_putSetting_21 0 rfl ?_
    refine r_get FX6 0 (Nat.le_of_ble_eq_true rfl) kf_X6_7 0 (qM_0 Z w) rfl dX6_putSetting_22 ?_
    refine r_iconst (v := 5) dX6_putSetting_25 (by decide) ?_
    refine r_iload_n dX6_putSetting_26 1 rfl ?_
    refine r_iadd dX6_putSetting_27 ?_
    refine r_iload_n dX6_putSetting_28 2 rfl ?_
    refine r_iast (qM_1 Z w) rfl (uM_1 Z w x2) dX6_putSetting_29 (fun w3 => ?_)
    refine r_iload_n dX6_putSetting_30 3 rfl ?_
    exact r_iretw rfl dX6_putSetting_31
  · refine r_sipush (v := -10002) dX6_putSetting_8 (by decide) ?_
    exact r_iretw rfl dX6_putSetting_11
theorem m_X6_putSetting (Z : CSp) (w : Wd) (x1 : Int32) (x2 : Int32) : MetM (EM Z) yX6_putSetting cX6_putSetting 4 (some .int) { frames := 2, cells := 0, slots := 0, locals := 43 } oIw [Value.ref (aC Z 0), Value.int x1, Value.int x2] w (f_X6_putSetting x1 x2 w) := MetM_of (plainFor_of_name (by decide)) (Nat.le_of_ble_eq_true rfl) (wk_X6_putSetting Z w x1 x2)
abbrev MX6_putShine : Mt := (cX6_putShine, RX6, 8, some .int, { frames := 2, cells := 0, slots := 0, locals := 45 })
def f_X6_putShine_b71 (x4 : Int32) (x5 : Int32) (x7 : Int32) (s0 : Int32) (s1 : Int32) (k40 : Int32 → Int32 → Wd → Option (Int32 × Wd)) (w : Wd) : Option (Int32 × Wd) :=
  jlet (s1 + s0) (fun y2 => k40 y2 (x7 + 1) w)
set_option maxRecDepth 100000 in
set_option maxHeartbeats 4000000 in
theorem wk_X6_putShine_b71 (Z : CSp) (w : Wd) (x4 : Int32) (x5 : Int32) (x7 : Int32) (s0 : Int32) (s1 : Int32) (k40 : Int32 → Int32 → Wd → Option (Int32 × Wd)) (hk40 : ∀ (x6 : Int32) (x7 : Int32) (w : Wd), Wm (EM Z) MX6_putShine oIw w 40 [(0, Value.ref (aC Z 0)), (4, Value.int x4), (5, Value.int x5), (6, Value.int x6), (7, Value.int x7)] [] (k40 x6 x7 w)) : Wm (EM Z) MX6_putShine oIw w 71 [(0, Value.ref (aC Z 0)), (4, Value.int x4), (5, Value.int x5), (7, Value.int x7)] [Value.int s0, Value.int s1] (f_X6_putShine_b71 x4 x5 x7 s0 s1 k40 w) := by
  unfold f_X6_putShine_b71
  refine r_iadd dX6_putShine_71 ?_
  refine r_leti (fun y2 => ?_)
  refine r_istore (lv' := [(0, Value.ref (aC Z 0)), (4, Value.int x4), (5, Value.int x5), (6, Value.int y2), (7, Value.int x7)]) dX6_putShine_72 (Nat.le_of_ble_eq_true rfl) [1, 2, 3, 0, 4] rfl ?_
  refine r_iinc (lv' := [(0, Value.ref (aC Z 0)), (4, Value.int x4), (5, Value.int x5), (6, Value.int y2), (7, Value.int (x7 + 1))]) dX6_putShine_74 4 rfl (by rfl) (Nat.le_of_ble_eq_true rfl) [1, 2, 3, 4, 0] rfl ?_
  refine r_goto (tgt := 40) dX6_putShine_77 (by decide) ?_
  exact hk40 y2 (x7 + 1) w
def f_X6_putShine_b40 (x4 : Int32) (x5 : Int32) : Nat → Int32 → Int32 → Wd → Option (Int32 × Wd)
  | 0, _, _, _ => none
  | n + 1, x6, x7, w =>
  if (12 : Int32) ≤ x7 then (some (x6, w)) else ((f_X6_raised (x5 + x7) x4 w).bind (fun z2 => if z2.1 = (4095 : Int32) then (f_X6_putShine_b71 x4 x5 x7 (1 : Int32) x6 (f_X6_putShine_b40 x4 x5 n) z2.2) else (f_X6_putShine_b71 x4 x5 x7 (0 : Int32) x6 (f_X6_putShine_b40 x4 x5 n) z2.2)))
set_option maxRecDepth 100000 in
set_option maxHeartbeats 4000000 in
theorem wk_X6_putShine_b40 (Z : CSp) (x4 : Int32) (x5 : Int32)  : ∀ (n : Nat) (x6 : Int32) (x7 : Int32) (w : Wd), Wm (EM Z) MX6_putShine oIw w 40 [(0, Value.ref (aC Z 0)), (4, Value.int x4), (5, Value.int x5), (6, Value.int x6), (7, Value.int x7)] [] (f_X6_putShine_b40 x4 x5 n x6 x7 w) := by
  intro n
  induction n with
  | zero =>
    intro x6 x7 w
    exact r_none
  | succ n ih =>
    intro x6 x7 w
    rw [f_X6_putShine_b40]
    refine r_iload dX6_putShine_40 4 rfl ?_
    refine r_bipush (v := 12) dX6_putShine_42 (by decide) ?_
    refine r_icmp_ge (tgt := 80) dX6_putShine_44 (by decide) (fun _ => ?_) (fun _ => ?_)
    · refine r_iload dX6_putShine_80 3 rfl ?_
      exact r_iretw rfl dX6_putShine_82
    · refine r_iload dX6_putShine_47 3 rfl ?_
      refine r_aload_n dX6_putShine_49 0 rfl ?_
      refine r_iload dX6_putShine_50 2 rfl ?_
      refine r_iload dX6_putShine_52 4 rfl ?_
      refine r_iadd dX6_putShine_54 ?_
      refine r_iload dX6_putShine_55 1 rfl ?_
      refine r_callV_Iw [Value.int (x5 + x7), Value.int x4] cfX6_raised (m_X6_raised Z w (x5 + x7) x4) km_X6_81 ⟨rfl, rfl, (Nat.le_of_ble_eq_true rfl), (Nat.le_of_ble_eq_true rfl)⟩ rfl rfl 0 (qM_0 Z w) rfl rfl (Nat.le_of_ble_eq_true rfl) dX6_putShine_57 (fun z2 => ?_)
      refine r_sipush (v := 4095) dX6_putShine_60 (by decide) ?_
      refine r_icmp_ne (tgt := 70) dX6_putShine_63 (by decide) (fun _ => ?_) (fun _ => ?_)
      · refine r_iconst (v := 0) dX6_putShine_70 (by decide) ?_
        refine r_lv [0, 1, 2, 4] rfl ?_
        exact wk_X6_putShine_b71 Z z2.2 x4 x5 x7 (0 : Int32) x6 _ (ih)
      · refine r_iconst (v := 1) dX6_putShine_66 (by decide) ?_
        refine r_goto (tgt := 71) dX6_putShine_67 (by decide) ?_
        refine r_lv [0, 1, 2, 4] rfl ?_
        exact wk_X6_putShine_b71 Z z2.2 x4 x5 x7 (1 : Int32) x6 _ (ih)
def f_X6_putShine_b22 (w : Wd) : Option (Int32 × Wd) :=
  some ((-10002 : Int32), w)
set_option maxRecDepth 100000 in
set_option maxHeartbeats 4000000 in
theorem wk_X6_putShine_b22 (Z : CSp) (w : Wd)   : Wm (EM Z) MX6_putShine oIw w 22 [] [] (f_X6_putShine_b22 w) := by
  unfold f_X6_putShine_b22
  refine r_sipush (v := -10002) dX6_putShine_22 (by decide) ?_
  exact r_iretw rfl dX6_putShine_25
def f_X6_putShine (x1 : Int32) (x2 : Int32) (x3 : Int32) (x4 : Int32) (w : Wd) : Option (Int32 × Wd) :=
  (f_X6_isCell x1 x2 x3 w).bind (fun v1 => if v1 = 0 then (f_X6_putShine_b22 w) else ((f_X6_in x4 (1 : Int32) (4095 : Int32)).bind (fun v2 => if v2 = 0 then (f_X6_putShine_b22 w) else ((f_X6_cellPlace x1 x2 x3).bind (fun v3 => f_X6_putShine_b40 x4 v3 FUEL (0 : Int32) (0 : Int32) w)))))
set_option maxRecDepth 100000 in
set_option maxHeartbeats 4000000 in
theorem wk_X6_putShine (Z : CSp) (w : Wd) (x1 : Int32) (x2 : Int32) (x3 : Int32) (x4 : Int32)  : Wm (EM Z) MX6_putShine oIw w 0 [(0, Value.ref (aC Z 0)), (1, Value.int x1), (2, Value.int x2), (3, Value.int x3), (4, Value.int x4)] [] (f_X6_putShine x1 x2 x3 x4 w) := by
  unfold f_X6_putShine
  refine r_aload_n dX6_putShine_0 0 rfl ?_
  refine r_iload_n dX6_putShine_1 1 rfl ?_
  refine r_iload_n dX6_putShine_2 2 rfl ?_
  refine r_iload_n dX6_putShine_3 3 rfl ?_
  refine r_callV_I [Value.int x1, Value.int x2, Value.int x3] cfX6_isCell (m_X6_isCell Z w x1 x2 x3) km_X6_69 ⟨rfl, rfl, (Nat.le_of_ble_eq_true rfl), (Nat.le_of_ble_eq_true rfl)⟩ rfl rfl 0 (qM_0 Z w) rfl rfl (Nat.le_of_ble_eq_true rfl) dX6_putShine_4 (fun v1 => ?_)
  refine r_if_eq (tgt := 22) dX6_putShine_7 (by decide) (fun _ => ?_) (fun _ => ?_)
  · refine r_lv [] rfl ?_
    exact wk_X6_putShine_b22 Z w
  · refine r_iload dX6_putShine_10 4 rfl ?_
    refine r_iconst (v := 1) dX6_putShine_12 (by decide) ?_
    refine r_sipush (v := 4095) dX6_putShine_13 (by decide) ?_
    refine r_callS_I [Value.int x4, Value.int (1 : Int32), Value.int (4095 : Int32)] cfX6_in (m_X6_in Z w x4 (1 : Int32) (4095 : Int32)) km_X6_60 ⟨rfl, rfl, (Nat.le_of_ble_eq_true rfl), (Nat.le_of_ble_eq_true rfl)⟩ rfl rfl (Nat.le_of_ble_eq_true rfl) dX6_putShine_16 (fun v2 => ?_)
    refine r_if_ne (tgt := 26) dX6_putShine_19 (by decide) (fun _ => ?_) (fun _ => ?_)
    · refine r_iload_n dX6_putShine_26 1 rfl ?_
      refine r_iload_n dX6_putShine_27 2 rfl ?_
      refine r_iload_n dX6_putShine_28 3 rfl ?_
      refine r_callS_I [Value.int x1, Value.int x2, Value.int x3] cfX6_cellPlace (m_X6_cellPlace Z w x1 x2 x3) km_X6_72 ⟨rfl, rfl, (Nat.le_of_ble_eq_true rfl), (Nat.le_of_ble_eq_true rfl)⟩ rfl rfl (Nat.le_of_ble_eq_true rfl) dX6_putShine_29 (fun v3 => ?_)
      refine r_istore (lv' := [(0, Value.ref (aC Z 0)), (1, Value.int x1), (2, Value.int x2), (3, Value.int x3), (4, Value.int x4), (5, Value.int v3)]) dX6_putShine_32 (Nat.le_of_ble_eq_true rfl) [1, 2, 3, 4, 5, 0] rfl ?_
      refine r_iconst (v := 0) dX6_putShine_34 (by decide) ?_
      refine r_istore (lv' := [(0, Value.ref (aC Z 0)), (1, Value.int x1), (2, Value.int x2), (3, Value.int x3), (4, Value.int x4), (5, Value.int v3), (6, Value.int (0 : Int32))]) dX6_putShine_35 (Nat.le_of_ble_eq_true rfl) [1, 2, 3, 4, 5, 6, 0] rfl ?_
      refine r_iconst (v := 0) dX6_putShine_37 (by decide) ?_
      refine r_istore (lv' := [(0, Value.ref (aC Z 0)), (1, Value.int x1), (2, Value.int x2), (3, Value.int x3), (4, Value.int x4), (5, Value.int v3), (6, Value.int (0 : Int32)), (7, Value.int (0 : Int32))]) dX6_putShine_38 (Nat.le_of_ble_eq_true rfl) [1, 2, 3, 4, 5, 6, 7, 0] rfl ?_
      refine r_lv [0, 4, 5, 6, 7] rfl ?_
      exact wk_X6_putShine_b40 Z x4 v3 FUEL (0 : Int32) (0 : Int32) w
    · refine r_lv [] rfl ?_
      exact wk_X6_putShine_b22 Z w
theorem m_X6_putShine (Z : CSp) (w : Wd) (x1 : Int32) (x2 : Int32) (x3 : Int32) (x4 : Int32) : MetM (EM Z) yX6_putShine cX6_putShine 8 (some .int) { frames := 2, cells := 0, slots := 0, locals := 45 } oIw [Value.ref (aC Z 0), Value.int x1, Value.int x2, Value.int x3, Value.int x4] w (f_X6_putShine x1 x2 x3 x4 w) := MetM_of (plainFor_of_name (by decide)) (Nat.le_of_ble_eq_true rfl) (wk_X6_putShine Z w x1 x2 x3 x4)
abbrev MX6_putWave : Mt := (cX6_putWave, RX6, 4, some .int, { frames := 1, cells := 0, slots := 0, locals := 22 })
def f_X6_putWave_b21 (w : Wd) : Option (Int32 × Wd) :=
  some ((-10002 : Int32), w)
set_option maxRecDepth 100000 in
set_option maxHeartbeats 4000000 in
theorem wk_X6_putWave_b21 (Z : CSp) (w : Wd)   : Wm (EM Z) MX6_putWave oIw w 21 [] [] (f_X6_putWave_b21 w) := by
  unfold f_X6_putWave_b21
  refine r_sipush (v := -10002) dX6_putWave_21 (by decide) ?_
  exact r_iretw rfl dX6_putWave_24
def f_X6_putWave (x1 : Int32) (x2 : Int32) (w : Wd) : Option (Int32 × Wd) :=
  (f_X6_in x1 (0 : Int32) (2 : Int32)).bind (fun v1 => if v1 = 0 then (f_X6_putWave_b21 w) else ((f_X6_in x2 (10 : Int32) (2000 : Int32)).bind (fun v2 => if v2 = 0 then (f_X6_putWave_b21 w) else (if inb ((2 : Int32) + x1) 395 = true then (jlet (w.1 1 ((2 : Int32) + x1).toNatClampNeg) (fun y3 => if inb ((2 : Int32) + x1) 395 = true then (wput w 1 ((2 : Int32) + x1).toNatClampNeg x2 (fun w4 => some (y3, w4))) else none)) else none))))
set_option maxRecDepth 100000 in
set_option maxHeartbeats 4000000 in
theorem wk_X6_putWave (Z : CSp) (w : Wd) (x1 : Int32) (x2 : Int32)  : Wm (EM Z) MX6_putWave oIw w 0 [(0, Value.ref (aC Z 0)), (1, Value.int x1), (2, Value.int x2)] [] (f_X6_putWave x1 x2 w) := by
  unfold f_X6_putWave
  refine r_iload_n dX6_putWave_0 1 rfl ?_
  refine r_iconst (v := 0) dX6_putWave_1 (by decide) ?_
  refine r_iconst (v := 2) dX6_putWave_2 (by decide) ?_
  refine r_callS_I [Value.int x1, Value.int (0 : Int32), Value.int (2 : Int32)] cfX6_in (m_X6_in Z w x1 (0 : Int32) (2 : Int32)) km_X6_60 ⟨rfl, rfl, (Nat.le_of_ble_eq_true rfl), (Nat.le_of_ble_eq_true rfl)⟩ rfl rfl (Nat.le_of_ble_eq_true rfl) dX6_putWave_3 (fun v1 => ?_)
  refine r_if_eq (tgt := 21) dX6_putWave_6 (by decide) (fun _ => ?_) (fun _ => ?_)
  · refine r_lv [] rfl ?_
    exact wk_X6_putWave_b21 Z w
  · refine r_iload_n dX6_putWave_9 2 rfl ?_
    refine r_bipush (v := 10) dX6_putWave_10 (by decide) ?_
    refine r_sipush (v := 2000) dX6_putWave_12 (by decide) ?_
    refine r_callS_I [Value.int x2, Value.int (10 : Int32), Value.int (2000 : Int32)] cfX6_in (m_X6_in Z w x2 (10 : Int32) (2000 : Int32)) km_X6_60 ⟨rfl, rfl, (Nat.le_of_ble_eq_true rfl), (Nat.le_of_ble_eq_true rfl)⟩ rfl rfl (Nat.le_of_ble_eq_true rfl) dX6_putWave_15 (fun v2 => ?_)
    refine r_if_ne (tgt := 25) dX6_putWave_18 (by decide) (fun _ => ?_) (fun _ => ?_)
    · refine r_aload_n dX6_putWave_25 0 rfl ?_
      refine r_get FX6 0 (Nat.le_of_ble_eq_true rfl) kf_X6_7 0 (qM_0 Z w) rfl dX6_putWave_26 ?_
      refine r_iconst (v := 2) dX6_putWave_29 (by decide) ?_
      refine r_iload_n dX6_putWave_30 1 rfl ?_
      refine r_iadd dX6_putWave_31 ?_
      refine r_iald 1 (qM_1 Z w) rfl dX6_putWave_32 ?_
      refine r_leti (fun y3 => ?_)
      refine r_istore_n (lv' := [(0, Value.ref (aC Z 0)), (1, Value.int x1), (2, Value.int x2), (3, Value.int y3)]) dX6_putWave_33 (Nat.le_of_ble_eq_true rfl) [1, 2, 3, 0] rfl ?_
      refine r_aload_n dX6_putWave_34 0 rfl ?_
      refine r_get FX6 0 (Nat.le_of_ble_eq_true rfl) kf_X6_7 0 (qM_0 Z w) rfl dX6_putWave_35 ?_
      refine r_iconst (v := 2) dX6_putWave_38 (by decide) ?_
      refine r_iload_n dX6_putWave_39 1 rfl ?_
      refine r_iadd dX6_putWave_40 ?_
      refine r_iload_n dX6_putWave_41 2 rfl ?_
      refine r_iast (qM_1 Z w) rfl (uM_1 Z w x2) dX6_putWave_42 (fun w4 => ?_)
      refine r_iload_n dX6_putWave_43 3 rfl ?_
      exact r_iretw rfl dX6_putWave_44
    · refine r_lv [] rfl ?_
      exact wk_X6_putWave_b21 Z w
theorem m_X6_putWave (Z : CSp) (w : Wd) (x1 : Int32) (x2 : Int32) : MetM (EM Z) yX6_putWave cX6_putWave 4 (some .int) { frames := 1, cells := 0, slots := 0, locals := 22 } oIw [Value.ref (aC Z 0), Value.int x1, Value.int x2] w (f_X6_putWave x1 x2 w) := MetM_of (plainFor_of_name (by decide)) (Nat.le_of_ble_eq_true rfl) (wk_X6_putWave Z w x1 x2)
abbrev MX6_doneOne : Mt := (cX6_doneOne, RX6, 7, some .int, { frames := 3, cells := 0, slots := 0, locals := 79 })
def f_X6_doneOne (x1 : Int32) (w : Wd) : Option (Int32 × Wd) :=
  jlet ((5 : Int32) * x1) (fun y1 => if inb y1 375 = true then (jlet (w.1 12 (y1).toNatClampNeg) (fun y2 => if inb (y1 + (1 : Int32)) 375 = true then (jlet (w.1 12 (y1 + (1 : Int32)).toNatClampNeg) (fun y3 => if inb (y1 + (2 : Int32)) 375 = true then (jlet (w.1 12 (y1 + (2 : Int32)).toNatClampNeg) (fun y4 => if inb (y1 + (3 : Int32)) 375 = true then (jlet (w.1 12 (y1 + (3 : Int32)).toNatClampNeg) (fun y5 => if inb x1 75 = true then (if (w.1 11 (x1).toNatClampNeg) = 101 then (if inb (y1 + (4 : Int32)) 375 = true then ((f_X6_putEcho y2 y3 y4 y5 (w.1 12 (y1 + (4 : Int32)).toNatClampNeg) w).bind (fun z6 => some (z6.1, z6.2))) else none) else (if (w.1 11 (x1).toNatClampNeg) = 103 then ((f_X6_putGrid y2 y3 w).bind (fun z7 => some (z7.1, z7.2))) else (if (w.1 11 (x1).toNatClampNeg) = 108 then ((f_X6_putShine y2 y3 y4 y5 w).bind (fun z8 => some (z8.1, z8.2))) else (if (w.1 11 (x1).toNatClampNeg) = 115 then ((f_X6_putSetting y2 y3 w).bind (fun z9 => some (z9.1, z9.2))) else (if (w.1 11 (x1).toNatClampNeg) = 118 then ((f_X6_putWave y2 y3 w).bind (fun z10 => some (z10.1, z10.2))) else ((f_X6_putClear y2 y3 y4 w).bind (fun z11 => some (z11.1, z11.2)))))))) else none)) else none)) else none)) else none)) else none)
set_option maxRecDepth 100000 in
set_option maxHeartbeats 4000000 in
theorem wk_X6_doneOne (Z : CSp) (w : Wd) (x1 : Int32)  : Wm (EM Z) MX6_doneOne oIw w 0 [(0, Value.ref (aC Z 0)), (1, Value.int x1)] [] (f_X6_doneOne x1 w) := by
  unfold f_X6_doneOne
  refine r_iconst (v := 5) dX6_doneOne_0 (by decide) ?_
  refine r_iload_n dX6_doneOne_1 1 rfl ?_
  refine r_imul dX6_doneOne_2 ?_
  refine r_leti (fun y1 => ?_)
  refine r_istore_n (lv' := [(0, Value.ref (aC Z 0)), (1, Value.int x1), (2, Value.int y1)]) dX6_doneOne_3 (Nat.le_of_ble_eq_true rfl) [1, 2, 0] rfl ?_
  refine r_aload_n dX6_doneOne_4 0 rfl ?_
  refine r_get FX6 22 (Nat.le_of_ble_eq_true rfl) kf_X6_43 0 (qM_0 Z w) rfl dX6_doneOne_5 ?_
  refine r_iload_n dX6_doneOne_8 2 rfl ?_
  refine r_iald 12 (qM_12 Z w) rfl dX6_doneOne_9 ?_
  refine r_leti (fun y2 => ?_)
  refine r_istore_n (lv' := [(0, Value.ref (aC Z 0)), (1, Value.int x1), (2, Value.int y1), (3, Value.int y2)]) dX6_doneOne_10 (Nat.le_of_ble_eq_true rfl) [1, 2, 3, 0] rfl ?_
  refine r_aload_n dX6_doneOne_11 0 rfl ?_
  refine r_get FX6 22 (Nat.le_of_ble_eq_true rfl) kf_X6_43 0 (qM_0 Z w) rfl dX6_doneOne_12 ?_
  refine r_iload_n dX6_doneOne_15 2 rfl ?_
  refine r_iconst (v := 1) dX6_doneOne_16 (by decide) ?_
  refine r_iadd dX6_doneOne_17 ?_
  refine r_iald 12 (qM_12 Z w) rfl dX6_doneOne_18 ?_
  refine r_leti (fun y3 => ?_)
  refine r_istore (lv' := [(0, Value.ref (aC Z 0)), (1, Value.int x1), (2, Value.int y1), (3, Value.int y2), (4, Value.int y3)]) dX6_doneOne_19 (Nat.le_of_ble_eq_true rfl) [1, 2, 3, 4, 0] rfl ?_
  refine r_aload_n dX6_doneOne_21 0 rfl ?_
  refine r_get FX6 22 (Nat.le_of_ble_eq_true rfl) kf_X6_43 0 (qM_0 Z w) rfl dX6_doneOne_22 ?_
  refine r_iload_n dX6_doneOne_25 2 rfl ?_
  refine r_iconst (v := 2) dX6_doneOne_26 (by decide) ?_
  refine r_iadd dX6_doneOne_27 ?_
  refine r_iald 12 (qM_12 Z w) rfl dX6_doneOne_28 ?_
  refine r_leti (fun y4 => ?_)
  refine r_istore (lv' := [(0, Value.ref (aC Z 0)), (1, Value.int x1), (2, Value.int y1), (3, Value.int y2), (4, Value.int y3), (5, Value.int y4)]) dX6_doneOne_29 (Nat.le_of_ble_eq_true rfl) [1, 2, 3, 4, 5, 0] rfl ?_
  refine r_aload_n dX6_doneOne_31 0 rfl ?_
  refine r_get FX6 22 (Nat.le_of_ble_eq_true rfl) kf_X6_43 0 (qM_0 Z w) rfl dX6_doneOne_32 ?_
  refine r_iload_n dX6_doneOne_35 2 rfl ?_
  refine r_iconst (v := 3) dX6_doneOne_36 (by decide) ?_
  refine r_iadd dX6_doneOne_37 ?_
  refine r_iald 12 (qM_12 Z w) rfl dX6_doneOne_38 ?_
  refine r_leti (fun y5 => ?_)
  refine r_istore (lv' := [(0, Value.ref (aC Z 0)), (1, Value.int x1), (2, Value.int y1), (3, Value.int y2), (4, Value.int y3), (5, Value.int y4), (6, Value.int y5)]) dX6_doneOne_39 (Nat.le_of_ble_eq_true rfl) [1, 2, 3, 4, 5, 6, 0] rfl ?_
  refine r_aload_n dX6_doneOne_41 0 rfl ?_
  refine r_get FX6 21 (Nat.le_of_ble_eq_true rfl) kf_X6_40 0 (qM_0 Z w) rfl dX6_doneOne_42 ?_
  refine r_iload_n dX6_doneOne_45 1 rfl ?_
  refine r_iald 11 (qM_11 Z w) rfl dX6_doneOne_46 ?_
  refine r_split (fun h0 => ?_) (fun h0 => ?_)
  · refine r_lin (k := 101) (tgt := 120) dX6_doneOne_47 h0 (by decide) ?_
    refine r_aload_n dX6_doneOne_120 0 rfl ?_
    refine r_iload_n dX6_doneOne_121 3 rfl ?_
    refine r_iload dX6_doneOne_122 4 rfl ?_
    refine r_iload dX6_doneOne_124 5 rfl ?_
    refine r_iload dX6_doneOne_126 6 rfl ?_
    refine r_aload_n dX6_doneOne_128 0 rfl ?_
    refine r_get FX6 22 (Nat.le_of_ble_eq_true rfl) kf_X6_43 0 (qM_0 Z w) rfl dX6_doneOne_129 ?_
    refine r_iload_n dX6_doneOne_132 2 rfl ?_
    refine r_iconst (v := 4) dX6_doneOne_133 (by decide) ?_
    refine r_iadd dX6_doneOne_134 ?_
    refine r_iald 12 (qM_12 Z w) rfl dX6_doneOne_135 ?_
    refine r_callV_Iw [Value.int y2, Value.int y3, Value.int y4, Value.int y5, Value.int (w.1 12 (y1 + (4 : Int32)).toNatClampNeg)] cfX6_putEcho (m_X6_putEcho Z w y2 y3 y4 y5 (w.1 12 (y1 + (4 : Int32)).toNatClampNeg)) km_X6_107 ⟨rfl, rfl, (Nat.le_of_ble_eq_true rfl), (Nat.le_of_ble_eq_true rfl)⟩ rfl rfl 0 (qM_0 Z w) rfl rfl (Nat.le_of_ble_eq_true rfl) dX6_doneOne_136 (fun z6 => ?_)
    exact r_iretw rfl dX6_doneOne_139
  refine r_split (fun h1 => ?_) (fun h1 => ?_)
  · refine r_lin (k := 103) (tgt := 96) dX6_doneOne_47 h1 (by decide) ?_
    refine r_aload_n dX6_doneOne_96 0 rfl ?_
    refine r_iload_n dX6_doneOne_97 3 rfl ?_
    refine r_iload dX6_doneOne_98 4 rfl ?_
    refine r_callV_Iw [Value.int y2, Value.int y3] cfX6_putGrid (m_X6_putGrid Z w y2 y3) km_X6_92 ⟨rfl, rfl, (Nat.le_of_ble_eq_true rfl), (Nat.le_of_ble_eq_true rfl)⟩ rfl rfl 0 (qM_0 Z w) rfl rfl (Nat.le_of_ble_eq_true rfl) dX6_doneOne_100 (fun z7 => ?_)
    exact r_iretw rfl dX6_doneOne_103
  refine r_split (fun h2 => ?_) (fun h2 => ?_)
  · refine r_lin (k := 108) (tgt := 140) dX6_doneOne_47 h2 (by decide) ?_
    refine r_aload_n dX6_doneOne_140 0 rfl ?_
    refine r_iload_n dX6_doneOne_141 3 rfl ?_
    refine r_iload dX6_doneOne_142 4 rfl ?_
    refine r_iload dX6_doneOne_144 5 rfl ?_
    refine r_iload dX6_doneOne_146 6 rfl ?_
    refine r_callV_Iw [Value.int y2, Value.int y3, Value.int y4, Value.int y5] cfX6_putShine (m_X6_putShine Z w y2 y3 y4 y5) km_X6_111 ⟨rfl, rfl, (Nat.le_of_ble_eq_true rfl), (Nat.le_of_ble_eq_true rfl)⟩ rfl rfl 0 (qM_0 Z w) rfl rfl (Nat.le_of_ble_eq_true rfl) dX6_doneOne_148 (fun z8 => ?_)
    exact r_iretw rfl dX6_doneOne_151
  refine r_split (fun h3 => ?_) (fun h3 => ?_)
  · refine r_lin (k := 115) (tgt := 112) dX6_doneOne_47 h3 (by decide) ?_
    refine r_aload_n dX6_doneOne_112 0 rfl ?_
    refine r_iload_n dX6_doneOne_113 3 rfl ?_
    refine r_iload dX6_doneOne_114 4 rfl ?_
    refine r_callV_Iw [Value.int y2, Value.int y3] cfX6_putSetting (m_X6_putSetting Z w y2 y3) km_X6_101 ⟨rfl, rfl, (Nat.le_of_ble_eq_true rfl), (Nat.le_of_ble_eq_true rfl)⟩ rfl rfl 0 (qM_0 Z w) rfl rfl (Nat.le_of_ble_eq_true rfl) dX6_doneOne_116 (fun z9 => ?_)
    exact r_iretw rfl dX6_doneOne_119
  refine r_split (fun h4 => ?_) (fun h4 => ?_)
  · refine r_lin (k := 118) (tgt := 104) dX6_doneOne_47 h4 (by decide) ?_
    refine r_aload_n dX6_doneOne_104 0 rfl ?_
    refine r_iload_n dX6_doneOne_105 3 rfl ?_
    refine r_iload dX6_doneOne_106 4 rfl ?_
    refine r_callV_Iw [Value.int y2, Value.int y3] cfX6_putWave (m_X6_putWave Z w y2 y3) km_X6_98 ⟨rfl, rfl, (Nat.le_of_ble_eq_true rfl), (Nat.le_of_ble_eq_true rfl)⟩ rfl rfl 0 (qM_0 Z w) rfl rfl (Nat.le_of_ble_eq_true rfl) dX6_doneOne_108 (fun z10 => ?_)
    exact r_iretw rfl dX6_doneOne_111
  refine r_lout (tgt := 152) dX6_doneOne_47 (by decide) ((lv_osw (a := 101) h0 (by decide)).trans ((lv_osw (a := 103) h1 (by decide)).trans ((lv_osw (a := 108) h2 (by decide)).trans ((lv_osw (a := 115) h3 (by decide)).trans ((lv_osw (a := 118) h4 (by decide)).trans rfl))))) (by decide) ?_
  refine r_aload_n dX6_doneOne_152 0 rfl ?_
  refine r_iload_n dX6_doneOne_153 3 rfl ?_
  refine r_iload dX6_doneOne_154 4 rfl ?_
  refine r_iload dX6_doneOne_156 5 rfl ?_
  refine r_callV_Iw [Value.int y2, Value.int y3, Value.int y4] cfX6_putClear (m_X6_putClear Z w y2 y3 y4) km_X6_115 ⟨rfl, rfl, (Nat.le_of_ble_eq_true rfl), (Nat.le_of_ble_eq_true rfl)⟩ rfl rfl 0 (qM_0 Z w) rfl rfl (Nat.le_of_ble_eq_true rfl) dX6_doneOne_158 (fun z11 => ?_)
  exact r_iretw rfl dX6_doneOne_161
theorem m_X6_doneOne (Z : CSp) (w : Wd) (x1 : Int32) : MetM (EM Z) yX6_doneOne cX6_doneOne 7 (some .int) { frames := 3, cells := 0, slots := 0, locals := 79 } oIw [Value.ref (aC Z 0), Value.int x1] w (f_X6_doneOne x1 w) := MetM_of (plainFor_of_name (by decide)) (Nat.le_of_ble_eq_true rfl) (wk_X6_doneOne Z w x1)
abbrev MX6_fails : Mt := (cX6_fails, RX6, 2, some .boolean, { frames := 0, cells := 0, slots := 0, locals := 0 })
def f_X6_fails (x1 : Int32) (w : Wd) : Option (Int32 × Wd) :=
  wput w 0 25 x1 (fun w1 => if zb (0 : Int32) = true then some ((0 : Int32), w1) else none)
set_option maxRecDepth 100000 in
set_option maxHeartbeats 4000000 in
theorem wk_X6_fails (Z : CSp) (w : Wd) (x1 : Int32)  : Wm (EM Z) MX6_fails oIw w 0 [(0, Value.ref (aC Z 0)), (1, Value.int x1)] [] (f_X6_fails x1 w) := by
  unfold f_X6_fails
  refine r_aload_n dX6_fails_0 0 rfl ?_
  refine r_iload_n dX6_fails_1 1 rfl ?_
  refine r_puti FX6 tyX6_ok nmX6 kf_X6_236 (qM_0 Z w) ⟨(Nat.le_of_ble_eq_true rfl), (Nat.le_of_ble_eq_true rfl), rfl⟩ (by decide) (uM_0_25 Z w x1) dX6_fails_2 (fun w1 => ?_)
  refine r_iconst (v := 0) dX6_fails_5 (by decide) ?_
  exact r_zretw rfl dX6_fails_6
theorem m_X6_fails (Z : CSp) (w : Wd) (x1 : Int32) : MetM (EM Z) yX6_fails cX6_fails 2 (some .boolean) { frames := 0, cells := 0, slots := 0, locals := 0 } oIw [Value.ref (aC Z 0), Value.int x1] w (f_X6_fails x1 w) := MetM_of (plainFor_of_name (by decide)) (Nat.le_of_ble_eq_true rfl) (wk_X6_fails Z w x1)
abbrev MX6_manyOf : Mt := (cX6_manyOf, RX6, 1, some .int, { frames := 0, cells := 0, slots := 0, locals := 0 })
def f_X6_manyOf_b104  : Option (Int32) :=
  some (-10001 : Int32)
set_option maxRecDepth 100000 in
set_option maxHeartbeats 4000000 in
theorem wk_X6_manyOf_b104 (Z : CSp) (w : Wd)   : Wm (EM Z) MX6_manyOf (oI w) w 104 [] [] (f_X6_manyOf_b104 ) := by
  unfold f_X6_manyOf_b104
  refine r_sipush (v := -10001) dX6_manyOf_104 (by decide) ?_
  exact r_iret rfl dX6_manyOf_107
def f_X6_manyOf_b96  : Option (Int32) :=
  some (2 : Int32)
set_option maxRecDepth 100000 in
set_option maxHeartbeats 4000000 in
theorem wk_X6_manyOf_b96 (Z : CSp) (w : Wd)   : Wm (EM Z) MX6_manyOf (oI w) w 96 [] [] (f_X6_manyOf_b96 ) := by
  unfold f_X6_manyOf_b96
  refine r_iconst (v := 2) dX6_manyOf_96 (by decide) ?_
  exact r_iret rfl dX6_manyOf_97
def f_X6_manyOf (x0 : Int32) : Option (Int32) :=
  if x0 = 99 then (some (3 : Int32)) else (if x0 = 100 then (f_X6_manyOf_b104) else (if x0 = 101 then (some (5 : Int32)) else (if x0 = 102 then (f_X6_manyOf_b104) else (if x0 = 103 then (f_X6_manyOf_b96) else (if x0 = 104 then (f_X6_manyOf_b104) else (if x0 = 105 then (f_X6_manyOf_b104) else (if x0 = 106 then (f_X6_manyOf_b104) else (if x0 = 107 then (f_X6_manyOf_b104) else (if x0 = 108 then (some (4 : Int32)) else (if x0 = 109 then (f_X6_manyOf_b104) else (if x0 = 110 then (f_X6_manyOf_b104) else (if x0 = 111 then (f_X6_manyOf_b104) else (if x0 = 112 then (f_X6_manyOf_b104) else (if x0 = 113 then (f_X6_manyOf_b104) else (if x0 = 114 then (f_X6_manyOf_b104) else (if x0 = 115 then (f_X6_manyOf_b96) else (if x0 = 116 then (f_X6_manyOf_b104) else (if x0 = 117 then (f_X6_manyOf_b104) else (if x0 = 118 then (f_X6_manyOf_b96) else (f_X6_manyOf_b104))))))))))))))))))))
set_option maxRecDepth 100000 in
set_option maxHeartbeats 4000000 in
theorem wk_X6_manyOf (Z : CSp) (w : Wd) (x0 : Int32)  : Wm (EM Z) MX6_manyOf (oI w) w 0 [(0, Value.int x0)] [] (f_X6_manyOf x0) := by
  unfold f_X6_manyOf
  refine r_iload_n dX6_manyOf_0 0 rfl ?_
  refine r_split (fun h0 => ?_) (fun h0 => ?_)
  · refine r_tin (k := 99) (tgt := 102) dX6_manyOf_1 h0 (by decide) ?_
    refine r_iconst (v := 3) dX6_manyOf_102 (by decide) ?_
    exact r_iret rfl dX6_manyOf_103
  refine r_split (fun h1 => ?_) (fun h1 => ?_)
  · refine r_tin (k := 100) (tgt := 104) dX6_manyOf_1 h1 (by decide) ?_
    refine r_lv [] rfl ?_
    exact wk_X6_manyOf_b104 Z w
  refine r_split (fun h2 => ?_) (fun h2 => ?_)
  · refine r_tin (k := 101) (tgt := 98) dX6_manyOf_1 h2 (by decide) ?_
    refine r_iconst (v := 5) dX6_manyOf_98 (by decide) ?_
    exact r_iret rfl dX6_manyOf_99
  refine r_split (fun h3 => ?_) (fun h3 => ?_)
  · refine r_tin (k := 102) (tgt := 104) dX6_manyOf_1 h3 (by decide) ?_
    refine r_lv [] rfl ?_
    exact wk_X6_manyOf_b104 Z w
  refine r_split (fun h4 => ?_) (fun h4 => ?_)
  · refine r_tin (k := 103) (tgt := 96) dX6_manyOf_1 h4 (by decide) ?_
    refine r_lv [] rfl ?_
    exact wk_X6_manyOf_b96 Z w
  refine r_split (fun h5 => ?_) (fun h5 => ?_)
  · refine r_tin (k := 104) (tgt := 104) dX6_manyOf_1 h5 (by decide) ?_
    refine r_lv [] rfl ?_
    exact wk_X6_manyOf_b104 Z w
  refine r_split (fun h6 => ?_) (fun h6 => ?_)
  · refine r_tin (k := 105) (tgt := 104) dX6_manyOf_1 h6 (by decide) ?_
    refine r_lv [] rfl ?_
    exact wk_X6_manyOf_b104 Z w
  refine r_split (fun h7 => ?_) (fun h7 => ?_)
  · refine r_tin (k := 106) (tgt := 104) dX6_manyOf_1 h7 (by decide) ?_
    refine r_lv [] rfl ?_
    exact wk_X6_manyOf_b104 Z w
  refine r_split (fun h8 => ?_) (fun h8 => ?_)
  · refine r_tin (k := 107) (tgt := 104) dX6_manyOf_1 h8 (by decide) ?_
    refine r_lv [] rfl ?_
    exact wk_X6_manyOf_b104 Z w
  refine r_split (fun h9 => ?_) (fun h9 => ?_)
  · refine r_tin (k := 108) (tgt := 100) dX6_manyOf_1 h9 (by decide) ?_
    refine r_iconst (v := 4) dX6_manyOf_100 (by decide) ?_
    exact r_iret rfl dX6_manyOf_101
  refine r_split (fun h10 => ?_) (fun h10 => ?_)
  · refine r_tin (k := 109) (tgt := 104) dX6_manyOf_1 h10 (by decide) ?_
    refine r_lv [] rfl ?_
    exact wk_X6_manyOf_b104 Z w
  refine r_split (fun h11 => ?_) (fun h11 => ?_)
  · refine r_tin (k := 110) (tgt := 104) dX6_manyOf_1 h11 (by decide) ?_
    refine r_lv [] rfl ?_
    exact wk_X6_manyOf_b104 Z w
  refine r_split (fun h12 => ?_) (fun h12 => ?_)
  · refine r_tin (k := 111) (tgt := 104) dX6_manyOf_1 h12 (by decide) ?_
    refine r_lv [] rfl ?_
    exact wk_X6_manyOf_b104 Z w
  refine r_split (fun h13 => ?_) (fun h13 => ?_)
  · refine r_tin (k := 112) (tgt := 104) dX6_manyOf_1 h13 (by decide) ?_
    refine r_lv [] rfl ?_
    exact wk_X6_manyOf_b104 Z w
  refine r_split (fun h14 => ?_) (fun h14 => ?_)
  · refine r_tin (k := 113) (tgt := 104) dX6_manyOf_1 h14 (by decide) ?_
    refine r_lv [] rfl ?_
    exact wk_X6_manyOf_b104 Z w
  refine r_split (fun h15 => ?_) (fun h15 => ?_)
  · refine r_tin (k := 114) (tgt := 104) dX6_manyOf_1 h15 (by decide) ?_
    refine r_lv [] rfl ?_
    exact wk_X6_manyOf_b104 Z w
  refine r_split (fun h16 => ?_) (fun h16 => ?_)
  · refine r_tin (k := 115) (tgt := 96) dX6_manyOf_1 h16 (by decide) ?_
    refine r_lv [] rfl ?_
    exact wk_X6_manyOf_b96 Z w
  refine r_split (fun h17 => ?_) (fun h17 => ?_)
  · refine r_tin (k := 116) (tgt := 104) dX6_manyOf_1 h17 (by decide) ?_
    refine r_lv [] rfl ?_
    exact wk_X6_manyOf_b104 Z w
  refine r_split (fun h18 => ?_) (fun h18 => ?_)
  · refine r_tin (k := 117) (tgt := 104) dX6_manyOf_1 h18 (by decide) ?_
    refine r_lv [] rfl ?_
    exact wk_X6_manyOf_b104 Z w
  refine r_split (fun h19 => ?_) (fun h19 => ?_)
  · refine r_tin (k := 118) (tgt := 96) dX6_manyOf_1 h19 (by decide) ?_
    refine r_lv [] rfl ?_
    exact wk_X6_manyOf_b96 Z w
  refine r_tout (tgt := 104) dX6_manyOf_1 (by have g0 := lv_neT h0 (a := 99) (by decide); have g1 := lv_neT h1 (a := 100) (by decide); have g2 := lv_neT h2 (a := 101) (by decide); have g3 := lv_neT h3 (a := 102) (by decide); have g4 := lv_neT h4 (a := 103) (by decide); have g5 := lv_neT h5 (a := 104) (by decide); have g6 := lv_neT h6 (a := 105) (by decide); have g7 := lv_neT h7 (a := 106) (by decide); have g8 := lv_neT h8 (a := 107) (by decide); have g9 := lv_neT h9 (a := 108) (by decide); have g10 := lv_neT h10 (a := 109) (by decide); have g11 := lv_neT h11 (a := 110) (by decide); have g12 := lv_neT h12 (a := 111) (by decide); have g13 := lv_neT h13 (a := 112) (by decide); have g14 := lv_neT h14 (a := 113) (by decide); have g15 := lv_neT h15 (a := 114) (by decide); have g16 := lv_neT h16 (a := 115) (by decide); have g17 := lv_neT h17 (a := 116) (by decide); have g18 := lv_neT h18 (a := 117) (by decide); have g19 := lv_neT h19 (a := 118) (by decide); omega) (by decide) ?_
  refine r_lv [] rfl ?_
  exact wk_X6_manyOf_b104 Z w
theorem m_X6_manyOf (Z : CSp) (w : Wd) (x0 : Int32) : MetM (EM Z) yX6_manyOf cX6_manyOf 1 (some .int) { frames := 0, cells := 0, slots := 0, locals := 0 } (oI w) [Value.int x0] w (f_X6_manyOf x0) := MetM_of (plainFor_of_name (by decide)) (Nat.le_of_ble_eq_true rfl) (wk_X6_manyOf Z w x0)
