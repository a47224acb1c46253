abbrev MX5_refuse : Mt := (cX5_refuse, RX5, 2, some .int, { frames := 0, cells := 0, slots := 0, locals := 0 })
def f_X5_refuse_b50 (x1 : Int32) (w : Wd) : Option (Int32 × Wd) :=
  some (x1, w)
set_option maxRecDepth 100000 in
set_option maxHeartbeats 4000000 in
theorem wk_X5_refuse_b50 (Z : CSp) (w : Wd) (x1 : Int32)  : Wm (EC Z) MX5_refuse oIw w 50 [(1, Value.int x1)] [] (f_X5_refuse_b50 x1 w) := by
  unfold f_X5_refuse_b50
  refine r_iload_n dX5_refuse_50 0 rfl ?_
  exact r_iretw rfl dX5_refuse_51
def f_X5_refuse (x1 : Int32) (w : Wd) : Option (Int32 × Wd) :=
  if x1 = (-10002 : Int32) then (wput w 0 6 ((w.1 0 6) + (1 : Int32)) (fun w3 => f_X5_refuse_b50 x1 w3)) else (if x1 = (-10003 : Int32) then (wput w 0 7 ((w.1 0 7) + (1 : Int32)) (fun w2 => f_X5_refuse_b50 x1 w2)) else (wput w 0 8 ((w.1 0 8) + (1 : Int32)) (fun w1 => f_X5_refuse_b50 x1 w1)))
set_option maxRecDepth 100000 in
set_option maxHeartbeats 4000000 in
theorem wk_X5_refuse (Z : CSp) (w : Wd) (x1 : Int32)  : Wm (EC Z) MX5_refuse oIw w 0 [(0, Value.ref (aC Z 0)), (1, Value.int x1)] [] (f_X5_refuse x1 w) := by
  unfold f_X5_refuse
  refine r_iload_n dX5_refuse_0 1 rfl ?_
  refine r_sipush (v := -10002) dX5_refuse_1 (by decide) ?_
  refine r_icmp_ne (tgt := 20) dX5_refuse_4 (by decide) (fun _ => ?_) (fun _ => ?_)
  · refine r_iload_n dX5_refuse_20 1 rfl ?_
    refine r_sipush (v := -10003) dX5_refuse_21 (by decide) ?_
    refine r_icmp_ne (tgt := 40) dX5_refuse_24 (by decide) (fun _ => ?_) (fun _ => ?_)
    · refine r_aload_n dX5_refuse_40 0 rfl ?_
      refine r_dup dX5_refuse_41 rfl ?_
      refine r_get FX5 8 (Nat.le_of_ble_eq_true rfl) kf_X5_50 0 (qC_0 Z w) rfl dX5_refuse_42 ?_
      refine r_iconst (v := 1) dX5_refuse_45 (by decide) ?_
      refine r_iadd dX5_refuse_46 ?_
      refine r_puti FX5 tyX5_ok nmX5 kf_X5_50 (qC_0 Z w) ⟨(Nat.le_of_ble_eq_true rfl), (Nat.le_of_ble_eq_true rfl), rfl⟩ (by decide) (uC_0_8 Z w ((w.1 0 8) + (1 : Int32))) dX5_refuse_47 (fun w1 => ?_)
      refine r_lv [1] rfl ?_
      exact wk_X5_refuse_b50 Z w1 x1
    · refine r_aload_n dX5_refuse_27 0 rfl ?_
      refine r_dup dX5_refuse_28 rfl ?_
      refine r_get FX5 7 (Nat.le_of_ble_eq_true rfl) kf_X5_47 0 (qC_0 Z w) rfl dX5_refuse_29 ?_
      refine r_iconst (v := 1) dX5_refuse_32 (by decide) ?_
      refine r_iadd dX5_refuse_33 ?_
      refine r_puti FX5 tyX5_ok nmX5 kf_X5_47 (qC_0 Z w) ⟨(Nat.le_of_ble_eq_true rfl), (Nat.le_of_ble_eq_true rfl), rfl⟩ (by decide) (uC_0_7 Z w ((w.1 0 7) + (1 : Int32))) dX5_refuse_34 (fun w2 => ?_)
      refine r_goto (tgt := 50) dX5_refuse_37 (by decide) ?_
      refine r_lv [1] rfl ?_
      exact wk_X5_refuse_b50 Z w2 x1
  · refine r_aload_n dX5_refuse_7 0 rfl ?_
    refine r_dup dX5_refuse_8 rfl ?_
    refine r_get FX5 6 (Nat.le_of_ble_eq_true rfl) kf_X5_44 0 (qC_0 Z w) rfl dX5_refuse_9 ?_
    refine r_iconst (v := 1) dX5_refuse_12 (by decide) ?_
    refine r_iadd dX5_refuse_13 ?_
    refine r_puti FX5 tyX5_ok nmX5 kf_X5_44 (qC_0 Z w) ⟨(Nat.le_of_ble_eq_true rfl), (Nat.le_of_ble_eq_true rfl), rfl⟩ (by decide) (uC_0_6 Z w ((w.1 0 6) + (1 : Int32))) dX5_refuse_14 (fun w3 => ?_)
    refine r_goto (tgt := 50) dX5_refuse_17 (by decide) ?_
    refine r_lv [1] rfl ?_
    exact wk_X5_refuse_b50 Z w3 x1
theorem m_X5_refuse (Z : CSp) (w : Wd) (x1 : Int32) : MetM (EC Z) yX5_refuse cX5_refuse 2 (some .int) { frames := 0, cells := 0, slots := 0, locals := 0 } oIw [Value.ref (aC Z 0), Value.int x1] w (f_X5_refuse x1 w) := MetM_of (plainFor_of_name (by decide)) (Nat.le_of_ble_eq_true rfl) (wk_X5_refuse Z w x1)
abbrev MX5_away : Mt := (cX5_away, RX5, 8, some .int, { frames := 3, cells := 0, slots := 0, locals := 68 })
def f_X5_away_b39 (w : Wd) : Option (Int32 × Wd) :=
  (f_X5_refuse (-10002 : Int32) w).bind (fun z2 => some (z2.1, z2.2))
set_option maxRecDepth 100000 in
set_option maxHeartbeats 4000000 in
theorem wk_X5_away_b39 (Z : CSp) (w : Wd)   : Wm (EC Z) MX5_away oIw w 39 [(0, Value.ref (aC Z 0))] [] (f_X5_away_b39 w) := by
  unfold f_X5_away_b39
  refine r_aload_n dX5_away_39 0 rfl ?_
  refine r_sipush (v := -10002) dX5_away_40 (by decide) ?_
  refine r_callV_Iw [Value.int (-10002 : Int32)] cfX5_refuse (m_X5_refuse Z w (-10002 : Int32)) km_X5_92 ⟨rfl, rfl, (Nat.le_of_ble_eq_true rfl), (Nat.le_of_ble_eq_true rfl)⟩ rfl rfl 0 (qC_0 Z w) rfl rfl (Nat.le_of_ble_eq_true rfl) dX5_away_43 (fun z2 => ?_)
  exact r_iretw rfl dX5_away_46
def f_X5_away (x1 : Int32) (x2 : Int32) (x3 : Int32) (x4 : Int32) (x5 : Int32) (w : Wd) : Option (Int32 × Wd) :=
  (f_X4_place x1 x2 x3 w).bind (fun v1 => if v1 < 0 then (f_X5_away_b39 w) else ((f_X5_within x4 (0 : Int32) (2 : Int32)).bind (fun v2 => if v2 = 0 then (f_X5_away_b39 w) else ((f_X5_within x5 (0 : Int32) (9999 : Int32)).bind (fun v3 => if v3 = 0 then (f_X5_away_b39 w) else ((f_X4_across v1 x4 w).bind (fun v4 => (f_X4_along v1 x4 w).bind (fun v5 => if inb x4 3 = true then ((f_X3_residue v4 v5 (w.1 11 (x4).toNatClampNeg)).bind (fun v6 => if v6 = (-10001 : Int32) then ((f_X5_refuse (-10003 : Int32) w).bind (fun z8 => some (z8.1, z8.2))) else (if inb x4 3 = true then ((f_X3_awayFrom x5 v6 (w.1 11 (x4).toNatClampNeg)).bind (fun v7 => some (v7, w))) else none))) else none))))))))
set_option maxRecDepth 100000 in
set_option maxHeartbeats 4000000 in
theorem wk_X5_away (Z : CSp) (w : Wd) (x1 : Int32) (x2 : Int32) (x3 : Int32) (x4 : Int32) (x5 : Int32)  : Wm (EC Z) MX5_away oIw w 0 [(0, Value.ref (aC Z 0)), (1, Value.int x1), (2, Value.int x2), (3, Value.int x3), (4, Value.int x4), (5, Value.int x5)] [] (f_X5_away x1 x2 x3 x4 x5 w) := by
  unfold f_X5_away
  refine r_aload_n dX5_away_0 0 rfl ?_
  refine r_get FX5 1 (Nat.le_of_ble_eq_true rfl) kf_X5_20 0 (qC_0 Z w) rfl dX5_away_1 ?_
  refine r_iload_n dX5_away_4 1 rfl ?_
  refine r_iload_n dX5_away_5 2 rfl ?_
  refine r_iload_n dX5_away_6 3 rfl ?_
  refine r_callV_I [Value.int x1, Value.int x2, Value.int x3] cfX4_place (m_X4_place Z w x1 x2 x3) km_X5_71 ⟨rfl, rfl, (Nat.le_of_ble_eq_true rfl), (Nat.le_of_ble_eq_true rfl)⟩ rfl rfl 10 (qC_10 Z w) rfl rfl (Nat.le_of_ble_eq_true rfl) dX5_away_7 (fun v1 => ?_)
  refine r_istore (lv' := [(0, Value.ref (aC Z 0)), (1, Value.int x1), (2, Value.int x2), (3, Value.int x3), (4, Value.int x4), (5, Value.int x5), (6, Value.int v1)]) dX5_away_10 (Nat.le_of_ble_eq_true rfl) [1, 2, 3, 4, 5, 6, 0] rfl ?_
  refine r_iload dX5_away_12 6 rfl ?_
  refine r_if_lt (tgt := 39) dX5_away_14 (by decide) (fun _ => ?_) (fun _ => ?_)
  · refine r_lv [0] rfl ?_
    exact wk_X5_away_b39 Z w
  · refine r_iload dX5_away_17 4 rfl ?_
    refine r_iconst (v := 0) dX5_away_19 (by decide) ?_
    refine r_iconst (v := 2) dX5_away_20 (by decide) ?_
    refine r_callS_I [Value.int x4, Value.int (0 : Int32), Value.int (2 : Int32)] cfX5_within (m_X5_within Z w x4 (0 : Int32) (2 : Int32)) km_X5_88 ⟨rfl, rfl, (Nat.le_of_ble_eq_true rfl), (Nat.le_of_ble_eq_true rfl)⟩ rfl rfl (Nat.le_of_ble_eq_true rfl) dX5_away_21 (fun v2 => ?_)
    refine r_if_eq (tgt := 39) dX5_away_24 (by decide) (fun _ => ?_) (fun _ => ?_)
    · refine r_lv [0] rfl ?_
      exact wk_X5_away_b39 Z w
    · refine r_iload dX5_away_27 5 rfl ?_
      refine r_iconst (v := 0) dX5_away_29 (by decide) ?_
      refine r_sipush (v := 9999) dX5_away_30 (by decide) ?_
      refine r_callS_I [Value.int x5, Value.int (0 : Int32), Value.int (9999 : Int32)] cfX5_within (m_X5_within Z w x5 (0 : Int32) (9999 : Int32)) km_X5_88 ⟨rfl, rfl, (Nat.le_of_ble_eq_true rfl), (Nat.le_of_ble_eq_true rfl)⟩ rfl rfl (Nat.le_of_ble_eq_true rfl) dX5_away_33 (fun v3 => ?_)
      refine r_if_ne (tgt := 47) dX5_away_36 (by decide) (fun _ => ?_) (fun _ => ?_)
      · refine r_aload_n dX5_away_47 0 rfl ?_
        refine r_get FX5 1 (Nat.le_of_ble_eq_true rfl) kf_X5_20 0 (qC_0 Z w) rfl dX5_away_48 ?_
        refine r_iload dX5_away_51 6 rfl ?_
        refine r_iload dX5_away_53 4 rfl ?_
        refine r_callV_I [Value.int v1, Value.int x4] cfX4_across (m_X4_across Z w v1 x4) km_X5_98 ⟨rfl, rfl, (Nat.le_of_ble_eq_true rfl), (Nat.le_of_ble_eq_true rfl)⟩ rfl rfl 10 (qC_10 Z w) rfl rfl (Nat.le_of_ble_eq_true rfl) dX5_away_55 (fun v4 => ?_)
        refine r_aload_n dX5_away_58 0 rfl ?_
        refine r_get FX5 1 (Nat.le_of_ble_eq_true rfl) kf_X5_20 0 (qC_0 Z w) rfl dX5_away_59 ?_
        refine r_iload dX5_away_62 6 rfl ?_
        refine r_iload dX5_away_64 4 rfl ?_
        refine r_callV_I [Value.int v1, Value.int x4] cfX4_along (m_X4_along Z w v1 x4) km_X5_101 ⟨rfl, rfl, (Nat.le_of_ble_eq_true rfl), (Nat.le_of_ble_eq_true rfl)⟩ rfl rfl 10 (qC_10 Z w) rfl rfl (Nat.le_of_ble_eq_true rfl) dX5_away_66 (fun v5 => ?_)
        refine r_aload_n dX5_away_69 0 rfl ?_
        refine r_get FX5 1 (Nat.le_of_ble_eq_true rfl) kf_X5_20 0 (qC_0 Z w) rfl dX5_away_70 ?_
        refine r_get FX4 2 (Nat.le_of_ble_eq_true rfl) kf_X5_109 10 (qC_10 Z w) rfl dX5_away_73 ?_
        refine r_iload dX5_away_76 4 rfl ?_
        refine r_iald 11 (qC_11 Z w) rfl dX5_away_78 ?_
        refine r_callS_I [Value.int v4, Value.int v5, Value.int (w.1 11 (x4).toNatClampNeg)] cfX3_residue (m_X3_residue Z w v4 v5 (w.1 11 (x4).toNatClampNeg)) km_X5_113 ⟨rfl, rfl, (Nat.le_of_ble_eq_true rfl), (Nat.le_of_ble_eq_true rfl)⟩ rfl rfl (Nat.le_of_ble_eq_true rfl) dX5_away_79 (fun v6 => ?_)
        refine r_istore (lv' := [(0, Value.ref (aC Z 0)), (1, Value.int x1), (2, Value.int x2), (3, Value.int x3), (4, Value.int x4), (5, Value.int x5), (6, Value.int v1), (7, Value.int v6)]) dX5_away_82 (Nat.le_of_ble_eq_true rfl) [1, 2, 3, 4, 5, 6, 7, 0] rfl ?_
        refine r_iload dX5_away_84 7 rfl ?_
        refine r_sipush (v := -10001) dX5_away_86 (by decide) ?_
        refine r_icmp_ne (tgt := 100) dX5_away_89 (by decide) (fun _ => ?_) (fun _ => ?_)
        · refine r_iload dX5_away_100 5 rfl ?_
          refine r_iload dX5_away_102 7 rfl ?_
          refine r_aload_n dX5_away_104 0 rfl ?_
          refine r_get FX5 1 (Nat.le_of_ble_eq_true rfl) kf_X5_20 0 (qC_0 Z w) rfl dX5_away_105 ?_
          refine r_get FX4 2 (Nat.le_of_ble_eq_true rfl) kf_X5_109 10 (qC_10 Z w) rfl dX5_away_108 ?_
          refine r_iload dX5_away_111 4 rfl ?_
          refine r_iald 11 (qC_11 Z w) rfl dX5_away_113 ?_
          refine r_callS_I [Value.int x5, Value.int v6, Value.int (w.1 11 (x4).toNatClampNeg)] cfX3_awayFrom (m_X3_awayFrom Z w x5 v6 (w.1 11 (x4).toNatClampNeg)) km_X5_135 ⟨rfl, rfl, (Nat.le_of_ble_eq_true rfl), (Nat.le_of_ble_eq_true rfl)⟩ rfl rfl (Nat.le_of_ble_eq_true rfl) dX5_away_114 (fun v7 => ?_)
          exact r_iretw rfl dX5_away_117
        · refine r_aload_n dX5_away_92 0 rfl ?_
          refine r_sipush (v := -10003) dX5_away_93 (by decide) ?_
          refine r_callV_Iw [Value.int (-10003 : Int32)] cfX5_refuse (m_X5_refuse Z w (-10003 : Int32)) km_X5_92 ⟨rfl, rfl, (Nat.le_of_ble_eq_true rfl), (Nat.le_of_ble_eq_true rfl)⟩ rfl rfl 0 (qC_0 Z w) rfl rfl (Nat.le_of_ble_eq_true rfl) dX5_away_96 (fun z8 => ?_)
          exact r_iretw rfl dX5_away_99
      · refine r_lv [0] rfl ?_
        exact wk_X5_away_b39 Z w
theorem m_X5_away (Z : CSp) (w : Wd) (x1 : Int32) (x2 : Int32) (x3 : Int32) (x4 : Int32) (x5 : Int32) : MetM (EC Z) yX5_away cX5_away 8 (some .int) { frames := 3, cells := 0, slots := 0, locals := 68 } oIw [Value.ref (aC Z 0), Value.int x1, Value.int x2, Value.int x3, Value.int x4, Value.int x5] w (f_X5_away x1 x2 x3 x4 x5 w) := MetM_of (plainFor_of_name (by decide)) (Nat.le_of_ble_eq_true rfl) (wk_X5_away Z w x1 x2 x3 x4 x5)
abbrev MX5_back : Mt := (cX5_back, RX5, 1, some .int, { frames := 2, cells := 0, slots := 0, locals := 61 })
def f_X5_back_b16 (w : Wd) : Option (Int32 × Wd) :=
  (f_X5_refuse (-10003 : Int32) w).bind (fun z2 => some (z2.1, z2.2))
set_option maxRecDepth 100000 in
set_option maxHeartbeats 4000000 in
theorem wk_X5_back_b16 (Z : CSp) (w : Wd)   : Wm (EC Z) MX5_back oIw w 16 [(0, Value.ref (aC Z 0))] [] (f_X5_back_b16 w) := by
  unfold f_X5_back_b16
  refine r_aload_n dX5_back_16 0 rfl ?_
  refine r_sipush (v := -10003) dX5_back_17 (by decide) ?_
  refine r_callV_Iw [Value.int (-10003 : Int32)] cfX5_refuse (m_X5_refuse Z w (-10003 : Int32)) km_X5_92 ⟨rfl, rfl, (Nat.le_of_ble_eq_true rfl), (Nat.le_of_ble_eq_true rfl)⟩ rfl rfl 0 (qC_0 Z w) rfl rfl (Nat.le_of_ble_eq_true rfl) dX5_back_20 (fun z2 => ?_)
  exact r_iretw rfl dX5_back_23
def f_X5_back (w : Wd) : Option (Int32 × Wd) :=
  if (w.1 0 4) < (1 : Int32) then (f_X5_back_b16 w) else (if (w.1 0 4) ≤ (5 : Int32) then (wput w 0 4 ((w.1 0 4) - (1 : Int32)) (fun w1 => if inb (w1.1 0 4) 5 = true then (if inS (w1.1 9 (w1.1 0 4).toNatClampNeg) = true then ((f_X4_copyFrom 10 (sc (w1.1 9 (w1.1 0 4).toNatClampNeg)) w1).bind (fun w2 => (f_X2_forget w2).bind (fun w3 => some ((w3.1 0 4), w3)))) else none) else none)) else (f_X5_back_b16 w))
set_option maxRecDepth 100000 in
set_option maxHeartbeats 4000000 in
theorem wk_X5_back (Z : CSp) (w : Wd)   : Wm (EC Z) MX5_back oIw w 0 [(0, Value.ref (aC Z 0))] [] (f_X5_back w) := by
  unfold f_X5_back
  refine r_aload_n dX5_back_0 0 rfl ?_
  refine r_get FX5 4 (Nat.le_of_ble_eq_true rfl) kf_X5_33 0 (qC_0 Z w) rfl dX5_back_1 ?_
  refine r_iconst (v := 1) dX5_back_4 (by decide) ?_
  refine r_icmp_lt (tgt := 16) dX5_back_5 (by decide) (fun _ => ?_) (fun _ => ?_)
  · exact wk_X5_back_b16 Z w
  · refine r_aload_n dX5_back_8 0 rfl ?_
    refine r_get FX5 4 (Nat.le_of_ble_eq_true rfl) kf_X5_33 0 (qC_0 Z w) rfl dX5_back_9 ?_
    refine r_iconst (v := 5) dX5_back_12 (by decide) ?_
    refine r_icmp_le (tgt := 24) dX5_back_13 (by decide) (fun _ => ?_) (fun _ => ?_)
    · refine r_aload_n dX5_back_24 0 rfl ?_
      refine r_dup dX5_back_25 rfl ?_
      refine r_get FX5 4 (Nat.le_of_ble_eq_true rfl) kf_X5_33 0 (qC_0 Z w) rfl dX5_back_26 ?_
      refine r_iconst (v := 1) dX5_back_29 (by decide) ?_
      refine r_isub dX5_back_30 ?_
      refine r_puti FX5 tyX5_ok nmX5 kf_X5_33 (qC_0 Z w) ⟨(Nat.le_of_ble_eq_true rfl), (Nat.le_of_ble_eq_true rfl), rfl⟩ (by decide) (uC_0_4 Z w ((w.1 0 4) - (1 : Int32))) dX5_back_31 (fun w1 => ?_)
      refine r_aload_n dX5_back_34 0 rfl ?_
      refine r_get FX5 1 (Nat.le_of_ble_eq_true rfl) kf_X5_20 0 (qC_0 Z w1) rfl dX5_back_35 ?_
      refine r_aload_n dX5_back_38 0 rfl ?_
      refine r_get FX5 3 (Nat.le_of_ble_eq_true rfl) kf_X5_29 0 (qC_0 Z w1) rfl dX5_back_39 ?_
      refine r_aload_n dX5_back_42 0 rfl ?_
      refine r_get FX5 4 (Nat.le_of_ble_eq_true rfl) kf_X5_33 0 (qC_0 Z w1) rfl dX5_back_43 ?_
      refine r_aald Z dX5_back_46 ?_
      refine r_copyS2 Z km_X5_53 ⟨rfl, rfl, (Nat.le_of_ble_eq_true rfl), (Nat.le_of_ble_eq_true rfl)⟩ (Nat.le_of_ble_eq_true rfl) dX5_back_47 (fun w2 => ?_)
      refine r_aload_n dX5_back_50 0 rfl ?_
      refine r_get FX5 0 (Nat.le_of_ble_eq_true rfl) kf_X5_12 0 (qC_0 Z w2) rfl dX5_back_51 ?_
      refine r_callV_Vw [] cfX2_forget (m_X2_forget Z w2) km_X5_201 ⟨rfl, rfl, (Nat.le_of_ble_eq_true rfl), (Nat.le_of_ble_eq_true rfl)⟩ rfl rfl 1 (qC_1 Z w2) rfl rfl (Nat.le_of_ble_eq_true rfl) dX5_back_54 (fun w3 => ?_)
      refine r_aload_n dX5_back_57 0 rfl ?_
      refine r_get FX5 4 (Nat.le_of_ble_eq_true rfl) kf_X5_33 0 (qC_0 Z w3) rfl dX5_back_58 ?_
      exact r_iretw rfl dX5_back_61
    · exact wk_X5_back_b16 Z w
theorem m_X5_back (Z : CSp) (w : Wd)  : MetM (EC Z) yX5_back cX5_back 1 (some .int) { frames := 2, cells := 0, slots := 0, locals := 61 } oIw [Value.ref (aC Z 0)] w (f_X5_back w) := MetM_of (plainFor_of_name (by decide)) (Nat.le_of_ble_eq_true rfl) (wk_X5_back Z w )
abbrev MX5_bits : Mt := (cX5_bits, RX5, 9, some .int, { frames := 3, cells := 0, slots := 0, locals := 68 })
def f_X5_bits_b93 (s0 : UInt32) (w : Wd) : Option (Int32 × Wd) :=
  (f_X0_ofFloat s0).bind (fun v2 => some (v2, w))
set_option maxRecDepth 100000 in
set_option maxHeartbeats 4000000 in
theorem wk_X5_bits_b93 (Z : CSp) (w : Wd) (s0 : UInt32)  : Wm (EC Z) MX5_bits oIw w 93 [] [Value.float s0] (f_X5_bits_b93 s0 w) := by
  unfold f_X5_bits_b93
  refine r_callS_I [Value.float s0] cfX0_ofFloat (m_X0_ofFloat Z w s0) km_X5_123 ⟨rfl, rfl, (Nat.le_of_ble_eq_true rfl), (Nat.le_of_ble_eq_true rfl)⟩ rfl rfl (Nat.le_of_ble_eq_true rfl) dX5_bits_93 (fun v2 => ?_)
  exact r_iretw rfl dX5_bits_96
def f_X5_bits_b37 (w : Wd) : Option (Int32 × Wd) :=
  (f_X5_refuse (-10002 : Int32) w).bind (fun z2 => some (z2.1, z2.2))
set_option maxRecDepth 100000 in
set_option maxHeartbeats 4000000 in
theorem wk_X5_bits_b37 (Z : CSp) (w : Wd)   : Wm (EC Z) MX5_bits oIw w 37 [(0, Value.ref (aC Z 0))] [] (f_X5_bits_b37 w) := by
  unfold f_X5_bits_b37
  refine r_aload_n dX5_bits_37 0 rfl ?_
  refine r_sipush (v := -10002) dX5_bits_38 (by decide) ?_
  refine r_callV_Iw [Value.int (-10002 : Int32)] cfX5_refuse (m_X5_refuse Z w (-10002 : Int32)) km_X5_92 ⟨rfl, rfl, (Nat.le_of_ble_eq_true rfl), (Nat.le_of_ble_eq_true rfl)⟩ rfl rfl 0 (qC_0 Z w) rfl rfl (Nat.le_of_ble_eq_true rfl) dX5_bits_41 (fun z2 => ?_)
  exact r_iretw rfl dX5_bits_44
def f_X5_bits (x1 : Int32) (x2 : Int32) (x3 : Int32) (x4 : Int32) (x5 : Int32) (w : Wd) : Option (Int32 × Wd) :=
  (f_X4_place x1 x2 x3 w).bind (fun v1 => if v1 < 0 then (f_X5_bits_b37 w) else ((f_X5_within x4 (0 : Int32) (2 : Int32)).bind (fun v2 => if v2 = 0 then (f_X5_bits_b37 w) else ((f_X5_within x5 (0 : Int32) (1 : Int32)).bind (fun v3 => if v3 = 0 then (f_X5_bits_b37 w) else ((f_X4_across v1 x4 w).bind (fun v4 => (f_X4_along v1 x4 w).bind (fun v5 => if x5 = 0 then ((f_X3_strength v4 v5).bind (fun v7 => f_X5_bits_b93 v7 w)) else ((f_X3_phase v4 v5).bind (fun v6 => f_X5_bits_b93 v6 w))))))))))
set_option maxRecDepth 100000 in
set_option maxHeartbeats 4000000 in
theorem wk_X5_bits (Z : CSp) (w : Wd) (x1 : Int32) (x2 : Int32) (x3 : Int32) (x4 : Int32) (x5 : Int32)  : Wm (EC Z) MX5_bits oIw w 0 [(0, Value.ref (aC Z 0)), (1, Value.int x1), (2, Value.int x2), (3, Value.int x3), (4, Value.int x4), (5, Value.int x5)] [] (f_X5_bits x1 x2 x3 x4 x5 w) := by
  unfold f_X5_bits
  refine r_aload_n dX5_bits_0 0 rfl ?_
  refine r_get FX5 1 (Nat.le_of_ble_eq_true rfl) kf_X5_20 0 (qC_0 Z w) rfl dX5_bits_1 ?_
  refine r_iload_n dX5_bits_4 1 rfl ?_
  refine r_iload_n dX5_bits_5 2 rfl ?_
  refine r_iload_n dX5_bits_6 3 rfl ?_
  refine r_callV_I [Value.int x1, Value.int x2, Value.int x3] cfX4_place (m_X4_place Z w x1 x2 x3) km_X5_71 ⟨rfl, rfl, (Nat.le_of_ble_eq_true rfl), (Nat.le_of_ble_eq_true rfl)⟩ rfl rfl 10 (qC_10 Z w) rfl rfl (Nat.le_of_ble_eq_true rfl) dX5_bits_7 (fun v1 => ?_)
  refine r_istore (lv' := [(0, Value.ref (aC Z 0)), (1, Value.int x1), (2, Value.int x2), (3, Value.int x3), (4, Value.int x4), (5, Value.int x5), (6, Value.int v1)]) dX5_bits_10 (Nat.le_of_ble_eq_true rfl) [1, 2, 3, 4, 5, 6, 0] rfl ?_
  refine r_iload dX5_bits_12 6 rfl ?_
  refine r_if_lt (tgt := 37) dX5_bits_14 (by decide) (fun _ => ?_) (fun _ => ?_)
  · refine r_lv [0] rfl ?_
    exact wk_X5_bits_b37 Z w
  · refine r_iload dX5_bits_17 4 rfl ?_
    refine r_iconst (v := 0) dX5_bits_19 (by decide) ?_
    refine r_iconst (v := 2) dX5_bits_20 (by decide) ?_
    refine r_callS_I [Value.int x4, Value.int (0 : Int32), Value.int (2 : Int32)] cfX5_within (m_X5_within Z w x4 (0 : Int32) (2 : Int32)) km_X5_88 ⟨rfl, rfl, (Nat.le_of_ble_eq_true rfl), (Nat.le_of_ble_eq_true rfl)⟩ rfl rfl (Nat.le_of_ble_eq_true rfl) dX5_bits_21 (fun v2 => ?_)
    refine r_if_eq (tgt := 37) dX5_bits_24 (by decide) (fun _ => ?_) (fun _ => ?_)
    · refine r_lv [0] rfl ?_
      exact wk_X5_bits_b37 Z w
    · refine r_iload dX5_bits_27 5 rfl ?_
      refine r_iconst (v := 0) dX5_bits_29 (by decide) ?_
      refine r_iconst (v := 1) dX5_bits_30 (by decide) ?_
      refine r_callS_I [Value.int x5, Value.int (0 : Int32), Value.int (1 : Int32)] cfX5_within (m_X5_within Z w x5 (0 : Int32) (1 : Int32)) km_X5_88 ⟨rfl, rfl, (Nat.le_of_ble_eq_true rfl), (Nat.le_of_ble_eq_true rfl)⟩ rfl rfl (Nat.le_of_ble_eq_true rfl) dX5_bits_31 (fun v3 => ?_)
      refine r_if_ne (tgt := 45) dX5_bits_34 (by decide) (fun _ => ?_) (fun _ => ?_)
      · refine r_aload_n dX5_bits_45 0 rfl ?_
        refine r_get FX5 1 (Nat.le_of_ble_eq_true rfl) kf_X5_20 0 (qC_0 Z w) rfl dX5_bits_46 ?_
        refine r_iload dX5_bits_49 6 rfl ?_
        refine r_iload dX5_bits_51 4 rfl ?_
        refine r_callV_I [Value.int v1, Value.int x4] cfX4_across (m_X4_across Z w v1 x4) km_X5_98 ⟨rfl, rfl, (Nat.le_of_ble_eq_true rfl), (Nat.le_of_ble_eq_true rfl)⟩ rfl rfl 10 (qC_10 Z w) rfl rfl (Nat.le_of_ble_eq_true rfl) dX5_bits_53 (fun v4 => ?_)
        refine r_istore (lv' := [(0, Value.ref (aC Z 0)), (1, Value.int x1), (2, Value.int x2), (3, Value.int x3), (4, Value.int x4), (5, Value.int x5), (6, Value.int v1), (7, Value.int v4)]) dX5_bits_56 (Nat.le_of_ble_eq_true rfl) [1, 2, 3, 4, 5, 6, 7, 0] rfl ?_
        refine r_aload_n dX5_bits_58 0 rfl ?_
        refine r_get FX5 1 (Nat.le_of_ble_eq_true rfl) kf_X5_20 0 (qC_0 Z w) rfl dX5_bits_59 ?_
        refine r_iload dX5_bits_62 6 rfl ?_
        refine r_iload dX5_bits_64 4 rfl ?_
        refine r_callV_I [Value.int v1, Value.int x4] cfX4_along (m_X4_along Z w v1 x4) km_X5_101 ⟨rfl, rfl, (Nat.le_of_ble_eq_true rfl), (Nat.le_of_ble_eq_true rfl)⟩ rfl rfl 10 (qC_10 Z w) rfl rfl (Nat.le_of_ble_eq_true rfl) dX5_bits_66 (fun v5 => ?_)
        refine r_istore (lv' := [(0, Value.ref (aC Z 0)), (1, Value.int x1), (2, Value.int x2), (3, Value.int x3), (4, Value.int x4), (5, Value.int x5), (6, Value.int v1), (7, Value.int v4), (8, Value.int v5)]) dX5_bits_69 (Nat.le_of_ble_eq_true rfl) [1, 2, 3, 4, 5, 6, 7, 8, 0] rfl ?_
        refine r_iload dX5_bits_71 5 rfl ?_
        refine r_if_ne (tgt := 86) dX5_bits_73 (by decide) (fun _ => ?_) (fun _ => ?_)
        · refine r_iload dX5_bits_86 7 rfl ?_
          refine r_iload dX5_bits_88 8 rfl ?_
          refine r_callS_F [Value.int v4, Value.int v5] cfX3_phase (m_X3_phase Z w v4 v5) km_X5_120 ⟨rfl, rfl, (Nat.le_of_ble_eq_true rfl), (Nat.le_of_ble_eq_true rfl)⟩ rfl rfl (Nat.le_of_ble_eq_true rfl) dX5_bits_90 (fun v6 => ?_)
          refine r_lv [] rfl ?_
          exact wk_X5_bits_b93 Z w v6
        · refine r_iload dX5_bits_76 7 rfl ?_
          refine r_iload dX5_bits_78 8 rfl ?_
          refine r_callS_F [Value.int v4, Value.int v5] cfX3_strength (m_X3_strength Z w v4 v5) km_X5_116 ⟨rfl, rfl, (Nat.le_of_ble_eq_true rfl), (Nat.le_of_ble_eq_true rfl)⟩ rfl rfl (Nat.le_of_ble_eq_true rfl) dX5_bits_80 (fun v7 => ?_)
          refine r_goto (tgt := 93) dX5_bits_83 (by decide) ?_
          refine r_lv [] rfl ?_
          exact wk_X5_bits_b93 Z w v7
      · refine r_lv [0] rfl ?_
        exact wk_X5_bits_b37 Z w
theorem m_X5_bits (Z : CSp) (w : Wd) (x1 : Int32) (x2 : Int32) (x3 : Int32) (x4 : Int32) (x5 : Int32) : MetM (EC Z) yX5_bits cX5_bits 9 (some .int) { frames := 3, cells := 0, slots := 0, locals := 68 } oIw [Value.ref (aC Z 0), Value.int x1, Value.int x2, Value.int x3, Value.int x4, Value.int x5] w (f_X5_bits x1 x2 x3 x4 x5 w) := MetM_of (plainFor_of_name (by decide)) (Nat.le_of_ble_eq_true rfl) (wk_X5_bits Z w x1 x2 x3 x4 x5)
abbrev MX5_cell : Mt := (cX5_cell, RX5, 7, some .int, { frames := 6, cells := 0, slots := 0, locals := 152 })
def f_X5_cell_b178 (s0 : Int32) (w : Wd) : Option (Int32 × Wd) :=
  some (s0, w)
set_option maxRecDepth 100000 in
set_option maxHeartbeats 4000000 in
theorem wk_X5_cell_b178 (Z : CSp) (w : Wd) (s0 : Int32)  : Wm (EC Z) MX5_cell oIw w 178 [] [Value.int s0] (f_X5_cell_b178 s0 w) := by
  unfold f_X5_cell_b178
  exact r_iretw rfl dX5_cell_178
def f_X5_cell_b152 (s0 : Int32) (w : Wd) : Option (Int32 × Wd) :=
  some (s0, w)
set_option maxRecDepth 100000 in
set_option maxHeartbeats 4000000 in
theorem wk_X5_cell_b152 (Z : CSp) (w : Wd) (s0 : Int32)  : Wm (EC Z) MX5_cell oIw w 152 [] [Value.int s0] (f_X5_cell_b152 s0 w) := by
  unfold f_X5_cell_b152
  exact r_iretw rfl dX5_cell_152
def f_X5_cell_b126 (s0 : Int32) (w : Wd) : Option (Int32 × Wd) :=
  some (s0, w)
set_option maxRecDepth 100000 in
set_option maxHeartbeats 4000000 in
theorem wk_X5_cell_b126 (Z : CSp) (w : Wd) (s0 : Int32)  : Wm (EC Z) MX5_cell oIw w 126 [] [Value.int s0] (f_X5_cell_b126 s0 w) := by
  unfold f_X5_cell_b126
  exact r_iretw rfl dX5_cell_126
def f_X5_cell_b100 (s0 : Int32) (w : Wd) : Option (Int32 × Wd) :=
  some (s0, w)
set_option maxRecDepth 100000 in
set_option maxHeartbeats 4000000 in
theorem wk_X5_cell_b100 (Z : CSp) (w : Wd) (s0 : Int32)  : Wm (EC Z) MX5_cell oIw w 100 [] [Value.int s0] (f_X5_cell_b100 s0 w) := by
  unfold f_X5_cell_b100
  exact r_iretw rfl dX5_cell_100
def f_X5_cell_b27 (w : Wd) : Option (Int32 × Wd) :=
  (f_X5_refuse (-10002 : Int32) w).bind (fun z2 => some (z2.1, z2.2))
set_option maxRecDepth 100000 in
set_option maxHeartbeats 4000000 in
theorem wk_X5_cell_b27 (Z : CSp) (w : Wd)   : Wm (EC Z) MX5_cell oIw w 27 [(0, Value.ref (aC Z 0))] [] (f_X5_cell_b27 w) := by
  unfold f_X5_cell_b27
  refine r_aload_n dX5_cell_27 0 rfl ?_
  refine r_sipush (v := -10002) dX5_cell_28 (by decide) ?_
  refine r_callV_Iw [Value.int (-10002 : Int32)] cfX5_refuse (m_X5_refuse Z w (-10002 : Int32)) km_X5_92 ⟨rfl, rfl, (Nat.le_of_ble_eq_true rfl), (Nat.le_of_ble_eq_true rfl)⟩ rfl rfl 0 (qC_0 Z w) rfl rfl (Nat.le_of_ble_eq_true rfl) dX5_cell_31 (fun z2 => ?_)
  exact r_iretw rfl dX5_cell_34
def f_X5_cell (x1 : Int32) (x2 : Int32) (x3 : Int32) (x4 : Int32) (w : Wd) : Option (Int32 × Wd) :=
  (f_X4_place x1 x2 x3 w).bind (fun v1 => if v1 < 0 then (f_X5_cell_b27 w) else ((f_X5_within x4 (0 : Int32) (3 : Int32)).bind (fun v2 => if v2 = 0 then (f_X5_cell_b27 w) else ((f_X2_markOf v1 w).bind (fun z3 => if x4 = 0 then (if z3.1 = 0 then ((f_X2_distanceOf v1 z3.2).bind (fun z5 => f_X5_cell_b100 z5.1 z5.2)) else ((f_X5_refuse (-10003 : Int32) z3.2).bind (fun z4 => f_X5_cell_b100 z4.1 z4.2))) else (if x4 = 1 then (if z3.1 = (4 : Int32) then ((f_X2_nearOf v1 z3.2).bind (fun z7 => f_X5_cell_b126 z7.1 z7.2)) else ((f_X5_refuse (-10003 : Int32) z3.2).bind (fun z6 => f_X5_cell_b126 z6.1 z6.2))) else (if x4 = 2 then (if z3.1 = (4 : Int32) then ((f_X2_beyondOf v1 z3.2).bind (fun z9 => f_X5_cell_b152 z9.1 z9.2)) else ((f_X5_refuse (-10003 : Int32) z3.2).bind (fun z8 => f_X5_cell_b152 z8.1 z8.2))) else (if z3.1 = 0 then ((f_X5_refuse (-10003 : Int32) z3.2).bind (fun z10 => f_X5_cell_b178 z10.1 z10.2)) else ((f_X2_filled x1 x2 x3 z3.2).bind (fun z11 => f_X5_cell_b178 z11.1 z11.2))))))))))
set_option maxRecDepth 100000 in
set_option maxHeartbeats 4000000 in
theorem wk_X5_cell (Z : CSp) (w : Wd) (x1 : Int32) (x2 : Int32) (x3 : Int32) (x4 : Int32)  : Wm (EC Z) MX5_cell oIw w 0 [(0, Value.ref (aC Z 0)), (1, Value.int x1), (2, Value.int x2), (3, Value.int x3), (4, Value.int x4)] [] (f_X5_cell x1 x2 x3 x4 w) := by
  unfold f_X5_cell
  refine r_aload_n dX5_cell_0 0 rfl ?_
  refine r_get FX5 1 (Nat.le_of_ble_eq_true rfl) kf_X5_20 0 (qC_0 Z w) rfl dX5_cell_1 ?_
  refine r_iload_n dX5_cell_4 1 rfl ?_
  refine r_iload_n dX5_cell_5 2 rfl ?_
  refine r_iload_n dX5_cell_6 3 rfl ?_
  refine r_callV_I [Value.int x1, Value.int x2, Value.int x3] cfX4_place (m_X4_place Z w x1 x2 x3) km_X5_71 ⟨rfl, rfl, (Nat.le_of_ble_eq_true rfl), (Nat.le_of_ble_eq_true rfl)⟩ rfl rfl 10 (qC_10 Z w) rfl rfl (Nat.le_of_ble_eq_true rfl) dX5_cell_7 (fun v1 => ?_)
  refine r_istore (lv' := [(0, Value.ref (aC Z 0)), (1, Value.int x1), (2, Value.int x2), (3, Value.int x3), (4, Value.int x4), (5, Value.int v1)]) dX5_cell_10 (Nat.le_of_ble_eq_true rfl) [1, 2, 3, 4, 5, 0] rfl ?_
  refine r_iload dX5_cell_12 5 rfl ?_
  refine r_if_lt (tgt := 27) dX5_cell_14 (by decide) (fun _ => ?_) (fun _ => ?_)
  · refine r_lv [0] rfl ?_
    exact wk_X5_cell_b27 Z w
  · refine r_iload dX5_cell_17 4 rfl ?_
    refine r_iconst (v := 0) dX5_cell_19 (by decide) ?_
    refine r_iconst (v := 3) dX5_cell_20 (by decide) ?_
    refine r_callS_I [Value.int x4, Value.int (0 : Int32), Value.int (3 : Int32)] cfX5_within (m_X5_within Z w x4 (0 : Int32) (3 : Int32)) km_X5_88 ⟨rfl, rfl, (Nat.le_of_ble_eq_true rfl), (Nat.le_of_ble_eq_true rfl)⟩ rfl rfl (Nat.le_of_ble_eq_true rfl) dX5_cell_21 (fun v2 => ?_)
    refine r_if_ne (tgt := 35) dX5_cell_24 (by decide) (fun _ => ?_) (fun _ => ?_)
    · refine r_aload_n dX5_cell_35 0 rfl ?_
      refine r_get FX5 0 (Nat.le_of_ble_eq_true rfl) kf_X5_12 0 (qC_0 Z w) rfl dX5_cell_36 ?_
      refine r_iload dX5_cell_39 5 rfl ?_
      refine r_callV_Iw [Value.int v1] cfX2_markOf (m_X2_markOf Z w v1) km_X5_129 ⟨rfl, rfl, (Nat.le_of_ble_eq_true rfl), (Nat.le_of_ble_eq_true rfl)⟩ rfl rfl 1 (qC_1 Z w) rfl rfl (Nat.le_of_ble_eq_true rfl) dX5_cell_41 (fun z3 => ?_)
      refine r_istore (lv' := [(0, Value.ref (aC Z 0)), (1, Value.int x1), (2, Value.int x2), (3, Value.int x3), (4, Value.int x4), (5, Value.int v1), (6, Value.int z3.1)]) dX5_cell_44 (Nat.le_of_ble_eq_true rfl) [1, 2, 3, 4, 5, 6, 0] rfl ?_
      refine r_iload dX5_cell_46 4 rfl ?_
      refine r_split (fun h0 => ?_) (fun h0 => ?_)
      · refine r_tin (k := 0) (tgt := 76) dX5_cell_48 h0 (by decide) ?_
        refine r_iload dX5_cell_76 6 rfl ?_
        refine r_if_ne (tgt := 93) dX5_cell_78 (by decide) (fun _ => ?_) (fun _ => ?_)
        · refine r_aload_n dX5_cell_93 0 rfl ?_
          refine r_sipush (v := -10003) dX5_cell_94 (by decide) ?_
          refine r_callV_Iw [Value.int (-10003 : Int32)] cfX5_refuse (m_X5_refuse Z z3.2 (-10003 : Int32)) km_X5_92 ⟨rfl, rfl, (Nat.le_of_ble_eq_true rfl), (Nat.le_of_ble_eq_true rfl)⟩ rfl rfl 0 (qC_0 Z z3.2) rfl rfl (Nat.le_of_ble_eq_true rfl) dX5_cell_97 (fun z4 => ?_)
          refine r_lv [] rfl ?_
          exact wk_X5_cell_b100 Z z4.2 z4.1
        · refine r_aload_n dX5_cell_81 0 rfl ?_
          refine r_get FX5 0 (Nat.le_of_ble_eq_true rfl) kf_X5_12 0 (qC_0 Z z3.2) rfl dX5_cell_82 ?_
          refine r_iload dX5_cell_85 5 rfl ?_
          refine r_callV_Iw [Value.int v1] cfX2_distanceOf (m_X2_distanceOf Z z3.2 v1) km_X5_132 ⟨rfl, rfl, (Nat.le_of_ble_eq_true rfl), (Nat.le_of_ble_eq_true rfl)⟩ rfl rfl 1 (qC_1 Z z3.2) rfl rfl (Nat.le_of_ble_eq_true rfl) dX5_cell_87 (fun z5 => ?_)
          refine r_goto (tgt := 100) dX5_cell_90 (by decide) ?_
          refine r_lv [] rfl ?_
          exact wk_X5_cell_b100 Z z5.2 z5.1
      refine r_split (fun h1 => ?_) (fun h1 => ?_)
      · refine r_tin (k := 1) (tgt := 101) dX5_cell_48 h1 (by decide) ?_
        refine r_iload dX5_cell_101 6 rfl ?_
        refine r_iconst (v := 4) dX5_cell_103 (by decide) ?_
        refine r_icmp_ne (tgt := 119) dX5_cell_104 (by decide) (fun _ => ?_) (fun _ => ?_)
        · refine r_aload_n dX5_cell_119 0 rfl ?_
          refine r_sipush (v := -10003) dX5_cell_120 (by decide) ?_
          refine r_callV_Iw [Value.int (-10003 : Int32)] cfX5_refuse (m_X5_refuse Z z3.2 (-10003 : Int32)) km_X5_92 ⟨rfl, rfl, (Nat.le_of_ble_eq_true rfl), (Nat.le_of_ble_eq_true rfl)⟩ rfl rfl 0 (qC_0 Z z3.2) rfl rfl (Nat.le_of_ble_eq_true rfl) dX5_cell_123 (fun z6 => ?_)
          refine r_lv [] rfl ?_
          exact wk_X5_cell_b126 Z z6.2 z6.1
        · refine r_aload_n dX5_cell_107 0 rfl ?_
          refine r_get FX5 0 (Nat.le_of_ble_eq_true rfl) kf_X5_12 0 (qC_0 Z z3.2) rfl dX5_cell_108 ?_
          refine r_iload dX5_cell_111 5 rfl ?_
          refine r_callV_Iw [Value.int v1] cfX2_nearOf (m_X2_nearOf Z z3.2 v1) km_X5_138 ⟨rfl, rfl, (Nat.le_of_ble_eq_true rfl), (Nat.le_of_ble_eq_true rfl)⟩ rfl rfl 1 (qC_1 Z z3.2) rfl rfl (Nat.le_of_ble_eq_true rfl) dX5_cell_113 (fun z7 => ?_)
          refine r_goto (tgt := 126) dX5_cell_116 (by decide) ?_
          refine r_lv [] rfl ?_
          exact wk_X5_cell_b126 Z z7.2 z7.1
      refine r_split (fun h2 => ?_) (fun h2 => ?_)
      · refine r_tin (k := 2) (tgt := 127) dX5_cell_48 h2 (by decide) ?_
        refine r_iload dX5_cell_127 6 rfl ?_
        refine r_iconst (v := 4) dX5_cell_129 (by decide) ?_
        refine r_icmp_ne (tgt := 145) dX5_cell_130 (by decide) (fun _ => ?_) (fun _ => ?_)
        · refine r_aload_n dX5_cell_145 0 rfl ?_
          refine r_sipush (v := -10003) dX5_cell_146 (by decide) ?_
          refine r_callV_Iw [Value.int (-10003 : Int32)] cfX5_refuse (m_X5_refuse Z z3.2 (-10003 : Int32)) km_X5_92 ⟨rfl, rfl, (Nat.le_of_ble_eq_true rfl), (Nat.le_of_ble_eq_true rfl)⟩ rfl rfl 0 (qC_0 Z z3.2) rfl rfl (Nat.le_of_ble_eq_true rfl) dX5_cell_149 (fun z8 => ?_)
          refine r_lv [] rfl ?_
          exact wk_X5_cell_b152 Z z8.2 z8.1
        · refine r_aload_n dX5_cell_133 0 rfl ?_
          refine r_get FX5 0 (Nat.le_of_ble_eq_true rfl) kf_X5_12 0 (qC_0 Z z3.2) rfl dX5_cell_134 ?_
          refine r_iload dX5_cell_137 5 rfl ?_
          refine r_callV_Iw [Value.int v1] cfX2_beyondOf (m_X2_beyondOf Z z3.2 v1) km_X5_141 ⟨rfl, rfl, (Nat.le_of_ble_eq_true rfl), (Nat.le_of_ble_eq_true rfl)⟩ rfl rfl 1 (qC_1 Z z3.2) rfl rfl (Nat.le_of_ble_eq_true rfl) dX5_cell_139 (fun z9 => ?_)
          refine r_goto (tgt := 152) dX5_cell_142 (by decide) ?_
          refine r_lv [] rfl ?_
          exact wk_X5_cell_b152 Z z9.2 z9.1
      refine r_tout (tgt := 153) dX5_cell_48 (by have g0 := lv_neT h0 (a := 0) (by decide); have g1 := lv_neT h1 (a := 1) (by decide); have g2 := lv_neT h2 (a := 2) (by decide); omega) (by decide) ?_
      refine r_iload dX5_cell_153 6 rfl ?_
      refine r_if_eq (tgt := 171) dX5_cell_155 (by decide) (fun _ => ?_) (fun _ => ?_)
      · refine r_aload_n dX5_cell_171 0 rfl ?_
        refine r_sipush (v := -10003) dX5_cell_172 (by decide) ?_
        refine r_callV_Iw [Value.int (-10003 : Int32)] cfX5_refuse (m_X5_refuse Z z3.2 (-10003 : Int32)) km_X5_92 ⟨rfl, rfl, (Nat.le_of_ble_eq_true rfl), (Nat.le_of_ble_eq_true rfl)⟩ rfl rfl 0 (qC_0 Z z3.2) rfl rfl (Nat.le_of_ble_eq_true rfl) dX5_cell_175 (fun z10 => ?_)
        refine r_lv [] rfl ?_
        exact wk_X5_cell_b178 Z z10.2 z10.1
      · refine r_aload_n dX5_cell_158 0 rfl ?_
        refine r_get FX5 0 (Nat.le_of_ble_eq_true rfl) kf_X5_12 0 (qC_0 Z z3.2) rfl dX5_cell_159 ?_
        refine r_iload_n dX5_cell_162 1 rfl ?_
        refine r_iload_n dX5_cell_163 2 rfl ?_
        refine r_iload_n dX5_cell_164 3 rfl ?_
        refine r_callV_Iw [Value.int x1, Value.int x2, Value.int x3] cfX2_filled (m_X2_filled Z z3.2 x1 x2 x3) km_X5_144 ⟨rfl, rfl, (Nat.le_of_ble_eq_true rfl), (Nat.le_of_ble_eq_true rfl)⟩ rfl rfl 1 (qC_1 Z z3.2) rfl rfl (Nat.le_of_ble_eq_true rfl) dX5_cell_165 (fun z11 => ?_)
        refine r_goto (tgt := 178) dX5_cell_168 (by decide) ?_
        refine r_lv [] rfl ?_
        exact wk_X5_cell_b178 Z z11.2 z11.1
    · refine r_lv [0] rfl ?_
      exact wk_X5_cell_b27 Z w
theorem m_X5_cell (Z : CSp) (w : Wd) (x1 : Int32) (x2 : Int32) (x3 : Int32) (x4 : Int32) : MetM (EC Z) yX5_cell cX5_cell 7 (some .int) { frames := 6, cells := 0, slots := 0, locals := 152 } oIw [Value.ref (aC Z 0), Value.int x1, Value.int x2, Value.int x3, Value.int x4] w (f_X5_cell x1 x2 x3 x4 w) := MetM_of (plainFor_of_name (by decide)) (Nat.le_of_ble_eq_true rfl) (wk_X5_cell Z w x1 x2 x3 x4)
abbrev MX5_clear : Mt := (cX5_clear, RX5, 2, some .int, { frames := 0, cells := 0, slots := 0, locals := 0 })
def f_X5_clear (w : Wd) : Option (Int32 × Wd) :=
  jlet (w.1 6 1) (fun y1 => wput w 6 1 (0 : Int32) (fun w2 => some (y1, w2)))
set_option maxRecDepth 100000 in
set_option maxHeartbeats 4000000 in
theorem wk_X5_clear (Z : CSp) (w : Wd)   : Wm (EC Z) MX5_clear oIw w 0 [(0, Value.ref (aC Z 0))] [] (f_X5_clear w) := by
  unfold f_X5_clear
  refine r_aload_n dX5_clear_0 0 rfl ?_
  refine r_get FX5 5 (Nat.le_of_ble_eq_true rfl) kf_X5_40 0 (qC_0 Z w) rfl dX5_clear_1 ?_
  refine r_get FX1 1 (Nat.le_of_ble_eq_true rfl) kf_X5_179 6 (qC_6 Z w) rfl dX5_clear_4 ?_
  refine r_leti (fun y1 => ?_)
  refine r_istore_n (lv' := [(0, Value.ref (aC Z 0)), (1, Value.int y1)]) dX5_clear_7 (Nat.le_of_ble_eq_true rfl) [1, 0] rfl ?_
  refine r_aload_n dX5_clear_8 0 rfl ?_
  refine r_get FX5 5 (Nat.le_of_ble_eq_true rfl) kf_X5_40 0 (qC_0 Z w) rfl dX5_clear_9 ?_
  refine r_iconst (v := 0) dX5_clear_12 (by decide) ?_
  refine r_puti FX1 tyX1_ok nmX1 kf_X5_179 (qC_6 Z w) ⟨(Nat.le_of_ble_eq_true rfl), (Nat.le_of_ble_eq_true rfl), rfl⟩ (by decide) (uC_6_1 Z w (0 : Int32)) dX5_clear_13 (fun w2 => ?_)
  refine r_iload_n dX5_clear_16 1 rfl ?_
  exact r_iretw rfl dX5_clear_17
theorem m_X5_clear (Z : CSp) (w : Wd)  : MetM (EC Z) yX5_clear cX5_clear 2 (some .int) { frames := 0, cells := 0, slots := 0, locals := 0 } oIw [Value.ref (aC Z 0)] w (f_X5_clear w) := MetM_of (plainFor_of_name (by decide)) (Nat.le_of_ble_eq_true rfl) (wk_X5_clear Z w )
abbrev MX5_keepBefore : Mt := (cX5_keepBefore, RX5, 3, none, { frames := 2, cells := 0, slots := 0, locals := 61 })
def f_X5_keepBefore_b54 (w : Wd) : Option (Wd) :=
  if inb (w.1 0 4) 5 = true then (if inS (w.1 9 (w.1 0 4).toNatClampNeg) = true then ((f_X4_copyFrom (sc (w.1 9 (w.1 0 4).toNatClampNeg)) 14 w).bind (fun w4 => wput w4 0 4 ((w4.1 0 4) + (1 : Int32)) (fun w5 => (f_X2_forget w5).bind (fun w6 => some w6)))) else none) else none
set_option maxRecDepth 100000 in
set_option maxHeartbeats 4000000 in
theorem wk_X5_keepBefore_b54 (Z : CSp) (w : Wd)   : Wm (EC Z) MX5_keepBefore oVw w 54 [(0, Value.ref (aC Z 0))] [] (f_X5_keepBefore_b54 w) := by
  unfold f_X5_keepBefore_b54
  refine r_aload_n dX5_keepBefore_54 0 rfl ?_
  refine r_get FX5 3 (Nat.le_of_ble_eq_true rfl) kf_X5_29 0 (qC_0 Z w) rfl dX5_keepBefore_55 ?_
  refine r_aload_n dX5_keepBefore_58 0 rfl ?_
  refine r_get FX5 4 (Nat.le_of_ble_eq_true rfl) kf_X5_33 0 (qC_0 Z w) rfl dX5_keepBefore_59 ?_
  refine r_aald Z dX5_keepBefore_62 ?_
  refine r_aload_n dX5_keepBefore_63 0 rfl ?_
  refine r_get FX5 2 (Nat.le_of_ble_eq_true rfl) kf_X5_26 0 (qC_0 Z w) rfl dX5_keepBefore_64 ?_
  refine r_copyS1 Z km_X5_53 ⟨rfl, rfl, (Nat.le_of_ble_eq_true rfl), (Nat.le_of_ble_eq_true rfl)⟩ (Nat.le_of_ble_eq_true rfl) dX5_keepBefore_67 (fun w4 => ?_)
  refine r_aload_n dX5_keepBefore_70 0 rfl ?_
  refine r_dup dX5_keepBefore_71 rfl ?_
  refine r_get FX5 4 (Nat.le_of_ble_eq_true rfl) kf_X5_33 0 (qC_0 Z w4) rfl dX5_keepBefore_72 ?_
  refine r_iconst (v := 1) dX5_keepBefore_75 (by decide) ?_
  refine r_iadd dX5_keepBefore_76 ?_
  refine r_puti FX5 tyX5_ok nmX5 kf_X5_33 (qC_0 Z w4) ⟨(Nat.le_of_ble_eq_true rfl), (Nat.le_of_ble_eq_true rfl), rfl⟩ (by decide) (uC_0_4 Z w4 ((w4.1 0 4) + (1 : Int32))) dX5_keepBefore_77 (fun w5 => ?_)
  refine r_aload_n dX5_keepBefore_80 0 rfl ?_
  refine r_get FX5 0 (Nat.le_of_ble_eq_true rfl) kf_X5_12 0 (qC_0 Z w5) rfl dX5_keepBefore_81 ?_
  refine r_callV_Vw [] cfX2_forget (m_X2_forget Z w5) km_X5_201 ⟨rfl, rfl, (Nat.le_of_ble_eq_true rfl), (Nat.le_of_ble_eq_true rfl)⟩ rfl rfl 1 (qC_1 Z w5) rfl rfl (Nat.le_of_ble_eq_true rfl) dX5_keepBefore_84 (fun w6 => ?_)
  exact r_vret rfl dX5_keepBefore_87
def f_X5_keepBefore_b17 (x1 : Int32) : Nat → Int32 → Wd → Option (Wd)
  | 0, _, _ => none
  | n + 1, x2, w =>
  if (5 : Int32) ≤ x2 then (if inb (4 : Int32) 5 = true ∧ inS x1 = true then (wput w 9 ((4 : Int32)).toNatClampNeg x1 (fun w4 => wput w4 0 4 (4 : Int32) (fun w5 => f_X5_keepBefore_b54 w5))) else none) else (if inb x2 5 = true then (if inb (x2 - (1 : Int32)) 5 = true ∧ inS (w.1 9 (x2).toNatClampNeg) = true then (wput w 9 (x2 - (1 : Int32)).toNatClampNeg (w.1 9 (x2).toNatClampNeg) (fun w6 => f_X5_keepBefore_b17 x1 n (x2 + 1) w6)) else none) else none)
set_option maxRecDepth 100000 in
set_option maxHeartbeats 4000000 in
theorem wk_X5_keepBefore_b17 (Z : CSp) (x1 : Int32)  : ∀ (n : Nat) (x2 : Int32) (w : Wd), Wm (EC Z) MX5_keepBefore oVw w 17 [(0, Value.ref (aC Z 0)), (1, Value.ref (aC Z (sc x1))), (2, Value.int x2)] [] (f_X5_keepBefore_b17 x1 n x2 w) := by
  intro n
  induction n with
  | zero =>
    intro x2 w
    exact r_none
  | succ n ih =>
    intro x2 w
    rw [f_X5_keepBefore_b17]
    refine r_iload_n dX5_keepBefore_17 2 rfl ?_
    refine r_iconst (v := 5) dX5_keepBefore_18 (by decide) ?_
    refine r_icmp_ge (tgt := 42) dX5_keepBefore_19 (by decide) (fun _ => ?_) (fun _ => ?_)
    · refine r_aload_n dX5_keepBefore_42 0 rfl ?_
      refine r_get FX5 3 (Nat.le_of_ble_eq_true rfl) kf_X5_29 0 (qC_0 Z w) rfl dX5_keepBefore_43 ?_
      refine r_iconst (v := 4) dX5_keepBefore_46 (by decide) ?_
      refine r_aload_n dX5_keepBefore_47 1 rfl ?_
      refine r_aast Z dX5_keepBefore_48 (fun w4 => ?_)
      refine r_aload_n dX5_keepBefore_49 0 rfl ?_
      refine r_iconst (v := 4) dX5_keepBefore_50 (by decide) ?_
      refine r_puti FX5 tyX5_ok nmX5 kf_X5_33 (qC_0 Z w4) ⟨(Nat.le_of_ble_eq_true rfl), (Nat.le_of_ble_eq_true rfl), rfl⟩ (by decide) (uC_0_4 Z w4 (4 : Int32)) dX5_keepBefore_51 (fun w5 => ?_)
      refine r_lv [0] rfl ?_
      exact wk_X5_keepBefore_b54 Z w5
    · refine r_aload_n dX5_keepBefore_22 0 rfl ?_
      refine r_get FX5 3 (Nat.le_of_ble_eq_true rfl) kf_X5_29 0 (qC_0 Z w) rfl dX5_keepBefore_23 ?_
      refine r_iload_n dX5_keepBefore_26 2 rfl ?_
      refine r_iconst (v := 1) dX5_keepBefore_27 (by decide) ?_
      refine r_isub dX5_keepBefore_28 ?_
      refine r_aload_n dX5_keepBefore_29 0 rfl ?_
      refine r_get FX5 3 (Nat.le_of_ble_eq_true rfl) kf_X5_29 0 (qC_0 Z w) rfl dX5_keepBefore_30 ?_
      refine r_iload_n dX5_keepBefore_33 2 rfl ?_
      refine r_aald Z dX5_keepBefore_34 ?_
      refine r_aast Z dX5_keepBefore_35 (fun w6 => ?_)
      refine r_iinc (lv' := [(0, Value.ref (aC Z 0)), (1, Value.ref (aC Z (sc x1))), (2, Value.int (x2 + 1))]) dX5_keepBefore_36 2 rfl (by rfl) (Nat.le_of_ble_eq_true rfl) [1, 2, 0] rfl ?_
      refine r_goto (tgt := 17) dX5_keepBefore_39 (by decide) ?_
      exact ih (x2 + 1) w6
def f_X5_keepBefore (w : Wd) : Option (Wd) :=
  if (w.1 0 4) < (5 : Int32) then (f_X5_keepBefore_b54 w) else (if inb (0 : Int32) 5 = true then (f_X5_keepBefore_b17 (w.1 9 ((0 : Int32)).toNatClampNeg) FUEL (1 : Int32) w) else none)
set_option maxRecDepth 100000 in
set_option maxHeartbeats 4000000 in
theorem wk_X5_keepBefore (Z : CSp) (w : Wd)   : Wm (EC Z) MX5_keepBefore oVw w 0 [(0, Value.ref (aC Z 0))] [] (f_X5_keepBefore w) := by
  unfold f_X5_keepBefore
  refine r_aload_n dX5_keepBefore_0 0 rfl ?_
  refine r_get FX5 4 (Nat.le_of_ble_eq_true rfl) kf_X5_33 0 (qC_0 Z w) rfl dX5_keepBefore_1 ?_
  refine r_iconst (v := 5) dX5_keepBefore_4 (by decide) ?_
  refine r_icmp_lt (tgt := 54) dX5_keepBefore_5 (by decide) (fun _ => ?_) (fun _ => ?_)
  · exact wk_X5_keepBefore_b54 Z w
  · refine r_aload_n dX5_keepBefore_8 0 rfl ?_
    refine r_get FX5 3 (Nat.le_of_ble_eq_true rfl) kf_X5_29 0 (qC_0 Z w) rfl dX5_keepBefore_9 ?_
    refine r_iconst (v := 0) dX5_keepBefore_12 (by decide) ?_
    refine r_aald Z dX5_keepBefore_13 ?_
    refine r_astore_n (lv' := [(0, Value.ref (aC Z 0)), (1, Value.ref (aC Z (sc (w.1 9 ((0 : Int32)).toNatClampNeg))))]) dX5_keepBefore_14 (Nat.le_of_ble_eq_true rfl) [1, 0] rfl ?_
    refine r_iconst (v := 1) dX5_keepBefore_15 (by decide) ?_
    refine r_istore_n (lv' := [(0, Value.ref (aC Z 0)), (1, Value.ref (aC Z (sc (w.1 9 ((0 : Int32)).toNatClampNeg)))), (2, Value.int (1 : Int32))]) dX5_keepBefore_16 (Nat.le_of_ble_eq_true rfl) [1, 2, 0] rfl ?_
    exact wk_X5_keepBefore_b17 Z (w.1 9 ((0 : Int32)).toNatClampNeg) FUEL (1 : Int32) w
theorem m_X5_keepBefore (Z : CSp) (w : Wd)  : MetM (EC Z) yX5_keepBefore cX5_keepBefore 3 none { frames := 2, cells := 0, slots := 0, locals := 61 } oVw [Value.ref (aC Z 0)] w (f_X5_keepBefore w) := MetM_of (plainFor_of_name (by decide)) (Nat.le_of_ble_eq_true rfl) (wk_X5_keepBefore Z w )
abbrev MX5_settle : Mt := (cX5_settle, RX5, 2, some .int, { frames := 3, cells := 0, slots := 0, locals := 83 })
def f_X5_settle (x1 : Int32) (w : Wd) : Option (Int32 × Wd) :=
  if x1 = (-10002 : Int32) then ((f_X5_refuse (-10002 : Int32) w).bind (fun z2 => some (z2.1, z2.2))) else ((f_X5_keepBefore w).bind (fun w1 => some (x1, w1)))
set_option maxRecDepth 100000 in
set_option maxHeartbeats 4000000 in
theorem wk_X5_settle (Z : CSp) (w : Wd) (x1 : Int32)  : Wm (EC Z) MX5_settle oIw w 0 [(0, Value.ref (aC Z 0)), (1, Value.int x1)] [] (f_X5_settle x1 w) := by
  unfold f_X5_settle
  refine r_iload_n dX5_settle_0 1 rfl ?_
  refine r_sipush (v := -10002) dX5_settle_1 (by decide) ?_
  refine r_icmp_ne (tgt := 15) dX5_settle_4 (by decide) (fun _ => ?_) (fun _ => ?_)
  · refine r_aload_n dX5_settle_15 0 rfl ?_
    refine r_callV_Vw [] cfX5_keepBefore (m_X5_keepBefore Z w) km_X5_198 ⟨rfl, rfl, (Nat.le_of_ble_eq_true rfl), (Nat.le_of_ble_eq_true rfl)⟩ rfl rfl 0 (qC_0 Z w) rfl rfl (Nat.le_of_ble_eq_true rfl) dX5_settle_16 (fun w1 => ?_)
    refine r_iload_n dX5_settle_19 1 rfl ?_
    exact r_iretw rfl dX5_settle_20
  · refine r_aload_n dX5_settle_7 0 rfl ?_
    refine r_sipush (v := -10002) dX5_settle_8 (by decide) ?_
    refine r_callV_Iw [Value.int (-10002 : Int32)] cfX5_refuse (m_X5_refuse Z w (-10002 : Int32)) km_X5_92 ⟨rfl, rfl, (Nat.le_of_ble_eq_true rfl), (Nat.le_of_ble_eq_true rfl)⟩ rfl rfl 0 (qC_0 Z w) rfl rfl (Nat.le_of_ble_eq_true rfl) dX5_settle_11 (fun z2 => ?_)
    exact r_iretw rfl dX5_settle_14
theorem m_X5_settle (Z : CSp) (w : Wd) (x1 : Int32) : MetM (EC Z) yX5_settle cX5_settle 2 (some .int) { frames := 3, cells := 0, slots := 0, locals := 83 } oIw [Value.ref (aC Z 0), Value.int x1] w (f_X5_settle x1 w) := MetM_of (plainFor_of_name (by decide)) (Nat.le_of_ble_eq_true rfl) (wk_X5_settle Z w x1)
abbrev MX5_clears : Mt := (cX5_clears, RX5, 4, some .int, { frames := 4, cells := 0, slots := 0, locals := 104 })
def f_X5_clears (x1 : Int32) (x2 : Int32) (x3 : Int32) (w : Wd) : Option (Int32 × Wd) :=
  (f_X4_copyFrom 14 10 w).bind (fun w1 => (f_X4_place x1 x2 x3 w1).bind (fun v2 => (f_X4_darken v2 w1).bind (fun z3 => (f_X5_settle z3.1 z3.2).bind (fun z4 => some (z4.1, z4.2)))))
set_option maxRecDepth 100000 in
set_option maxHeartbeats 4000000 in
theorem wk_X5_clears (Z : CSp) (w : Wd) (x1 : Int32) (x2 : Int32) (x3 : Int32)  : Wm (EC Z) MX5_clears oIw w 0 [(0, Value.ref (aC Z 0)), (1, Value.int x1), (2, Value.int x2), (3, Value.int x3)] [] (f_X5_clears x1 x2 x3 w) := by
  unfold f_X5_clears
  refine r_aload_n dX5_clears_0 0 rfl ?_
  refine r_get FX5 2 (Nat.le_of_ble_eq_true rfl) kf_X5_26 0 (qC_0 Z w) rfl dX5_clears_1 ?_
  refine r_aload_n dX5_clears_4 0 rfl ?_
  refine r_get FX5 1 (Nat.le_of_ble_eq_true rfl) kf_X5_20 0 (qC_0 Z w) rfl dX5_clears_5 ?_
  refine r_callV_Vw [Value.ref (aC Z 10)] cfX4_copyFrom (m_X4_copyFrom_14_10 Z w) km_X5_53 ⟨rfl, rfl, (Nat.le_of_ble_eq_true rfl), (Nat.le_of_ble_eq_true rfl)⟩ rfl rfl 14 (qC_14 Z w) rfl rfl (Nat.le_of_ble_eq_true rfl) dX5_clears_8 (fun w1 => ?_)
  refine r_aload_n dX5_clears_11 0 rfl ?_
  refine r_aload_n dX5_clears_12 0 rfl ?_
  refine r_get FX5 1 (Nat.le_of_ble_eq_true rfl) kf_X5_20 0 (qC_0 Z w1) rfl dX5_clears_13 ?_
  refine r_aload_n dX5_clears_16 0 rfl ?_
  refine r_get FX5 1 (Nat.le_of_ble_eq_true rfl) kf_X5_20 0 (qC_0 Z w1) rfl dX5_clears_17 ?_
  refine r_iload_n dX5_clears_20 1 rfl ?_
  refine r_iload_n dX5_clears_21 2 rfl ?_
  refine r_iload_n dX5_clears_22 3 rfl ?_
  refine r_callV_I [Value.int x1, Value.int x2, Value.int x3] cfX4_place (m_X4_place Z w1 x1 x2 x3) km_X5_71 ⟨rfl, rfl, (Nat.le_of_ble_eq_true rfl), (Nat.le_of_ble_eq_true rfl)⟩ rfl rfl 10 (qC_10 Z w1) rfl rfl (Nat.le_of_ble_eq_true rfl) dX5_clears_23 (fun v2 => ?_)
  refine r_callV_Iw [Value.int v2] cfX4_darken (m_X4_darken Z w1 v2) km_X5_85 ⟨rfl, rfl, (Nat.le_of_ble_eq_true rfl), (Nat.le_of_ble_eq_true rfl)⟩ rfl rfl 10 (qC_10 Z w1) rfl rfl (Nat.le_of_ble_eq_true rfl) dX5_clears_26 (fun z3 => ?_)
  refine r_callV_Iw [Value.int z3.1] cfX5_settle (m_X5_settle Z z3.2 z3.1) km_X5_61 ⟨rfl, rfl, (Nat.le_of_ble_eq_true rfl), (Nat.le_of_ble_eq_true rfl)⟩ rfl rfl 0 (qC_0 Z z3.2) rfl rfl (Nat.le_of_ble_eq_true rfl) dX5_clears_29 (fun z4 => ?_)
  exact r_iretw rfl dX5_clears_32
theorem m_X5_clears (Z : CSp) (w : Wd) (x1 : Int32) (x2 : Int32) (x3 : Int32) : MetM (EC Z) yX5_clears cX5_clears 4 (some .int) { frames := 4, cells := 0, slots := 0, locals := 104 } oIw [Value.ref (aC Z 0), Value.int x1, Value.int x2, Value.int x3] w (f_X5_clears x1 x2 x3 w) := MetM_of (plainFor_of_name (by decide)) (Nat.le_of_ble_eq_true rfl) (wk_X5_clears Z w x1 x2 x3)
abbrev MX5_digestCell : Mt := (cX5_digestCell, RX5, 11, some .long, { frames := 6, cells := 0, slots := 0, locals := 152 })
def f_X5_digestCell_b160 (x3 : Int32) (x4 : Int32) (x5 : Int32) (x6 : Int64) (w : Wd) : Option (Int64 × Wd) :=
  (f_X2_filled x3 x4 x5 w).bind (fun z2 => some ((((31 : Int64) * x6) + ((z2.1).toInt64)), z2.2))
set_option maxRecDepth 100000 in
set_option maxHeartbeats 4000000 in
theorem wk_X5_digestCell_b160 (Z : CSp) (w : Wd) (x3 : Int32) (x4 : Int32) (x5 : Int32) (x6 : Int64)  : Wm (EC Z) MX5_digestCell oLw w 160 [(0, Value.ref (aC Z 0)), (3, Value.int x3), (4, Value.int x4), (5, Value.int x5), (6, Value.long x6)] [] (f_X5_digestCell_b160 x3 x4 x5 x6 w) := by
  unfold f_X5_digestCell_b160
  refine r_ldc2 dX5_digestCell_160 kk_X5_209 ?_
  refine r_lload dX5_digestCell_163 4 rfl ?_
  refine r_lmul dX5_digestCell_165 ?_
  refine r_aload_n dX5_digestCell_166 0 rfl ?_
  refine r_get FX5 0 (Nat.le_of_ble_eq_true rfl) kf_X5_12 0 (qC_0 Z w) rfl dX5_digestCell_167 ?_
  refine r_iload_n dX5_digestCell_170 1 rfl ?_
  refine r_iload dX5_digestCell_171 2 rfl ?_
  refine r_iload dX5_digestCell_173 3 rfl ?_
  refine r_callV_Iw [Value.int x3, Value.int x4, Value.int x5] cfX2_filled (m_X2_filled Z w x3 x4 x5) km_X5_144 ⟨rfl, rfl, (Nat.le_of_ble_eq_true rfl), (Nat.le_of_ble_eq_true rfl)⟩ rfl rfl 1 (qC_1 Z w) rfl rfl (Nat.le_of_ble_eq_true rfl) dX5_digestCell_175 (fun z2 => ?_)
  refine r_i2l dX5_digestCell_178 ?_
  refine r_ladd dX5_digestCell_179 ?_
  exact r_lretw rfl dX5_digestCell_180
def f_X5_digestCell_b29 (x3 : Int32) (x4 : Int32) (x5 : Int32) (x8 : Int32) (x9 : Int32) (k20 : Int64 → Int32 → Wd → Option (Int64 × Wd)) : Nat → Int64 → Int32 → Wd → Option (Int64 × Wd)
  | 0, _, _, _ => none
  | n + 1, x6, x10, w =>
  if (4 : Int32) ≤ x10 then (k20 x6 (x9 + 1) w) else ((f_X4_sampleAt x8 x9 x10 w).bind (fun v3 => jlet (((31 : Int64) * x6) + ((v3).toInt64)) (fun y4 => f_X5_digestCell_b29 x3 x4 x5 x8 x9 k20 n y4 (x10 + 1) w)))
set_option maxRecDepth 100000 in
set_option maxHeartbeats 4000000 in
theorem wk_X5_digestCell_b29 (Z : CSp) (x3 : Int32) (x4 : Int32) (x5 : Int32) (x8 : Int32) (x9 : Int32) (k20 : Int64 → Int32 → Wd → Option (Int64 × Wd)) (hk20 : ∀ (x6 : Int64) (x9 : Int32) (w : Wd), Wm (EC Z) MX5_digestCell oLw w 20 [(0, Value.ref (aC Z 0)), (3, Value.int x3), (4, Value.int x4), (5, Value.int x5), (6, Value.long x6), (8, Value.int x8), (9, Value.int x9)] [] (k20 x6 x9 w)) : ∀ (n : Nat) (x6 : Int64) (x10 : Int32) (w : Wd), Wm (EC Z) MX5_digestCell oLw w 29 [(0, Value.ref (aC Z 0)), (3, Value.int x3), (4, Value.int x4), (5, Value.int x5), (6, Value.long x6), (8, Value.int x8), (9, Value.int x9), (10, Value.int x10)] [] (f_X5_digestCell_b29 x3 x4 x5 x8 x9 k20 n x6 x10 w) := by
  intro n
  induction n with
  | zero =>
    intro x6 x10 w
    exact r_none
  | succ n ih =>
    intro x6 x10 w
    rw [f_X5_digestCell_b29]
    refine r_iload dX5_digestCell_29 7 rfl ?_
    refine r_iconst (v := 4) dX5_digestCell_31 (by decide) ?_
    refine r_icmp_ge (tgt := 64) dX5_digestCell_32 (by decide) (fun _ => ?_) (fun _ => ?_)
    · refine r_iinc (lv' := [(0, Value.ref (aC Z 0)), (3, Value.int x3), (4, Value.int x4), (5, Value.int x5), (6, Value.long x6), (8, Value.int x8), (9, Value.int (x9 + 1)), (10, Value.int x10)]) dX5_digestCell_64 6 rfl (by rfl) (Nat.le_of_ble_eq_true rfl) [1, 2, 3, 4, 5, 6, 0, 7] rfl ?_
      refine r_goto (tgt := 20) dX5_digestCell_67 (by decide) ?_
      refine r_lv [0, 1, 2, 3, 4, 5, 6] rfl ?_
      exact hk20 x6 (x9 + 1) w
    · refine r_ldc2 dX5_digestCell_35 kk_X5_209 ?_
      refine r_lload dX5_digestCell_38 4 rfl ?_
      refine r_lmul dX5_digestCell_40 ?_
      refine r_aload_n dX5_digestCell_41 0 rfl ?_
      refine r_get FX5 1 (Nat.le_of_ble_eq_true rfl) kf_X5_20 0 (qC_0 Z w) rfl dX5_digestCell_42 ?_
      refine r_iload dX5_digestCell_45 5 rfl ?_
      refine r_iload dX5_digestCell_47 6 rfl ?_
      refine r_iload dX5_digestCell_49 7 rfl ?_
      refine r_callV_I [Value.int x8, Value.int x9, Value.int x10] cfX4_sampleAt (m_X4_sampleAt Z w x8 x9 x10) km_X5_95 ⟨rfl, rfl, (Nat.le_of_ble_eq_true rfl), (Nat.le_of_ble_eq_true rfl)⟩ rfl rfl 10 (qC_10 Z w) rfl rfl (Nat.le_of_ble_eq_true rfl) dX5_digestCell_51 (fun v3 => ?_)
      refine r_i2l dX5_digestCell_54 ?_
      refine r_ladd dX5_digestCell_55 ?_
      refine r_letl (fun y4 => ?_)
      refine r_lstore (lv' := [(0, Value.ref (aC Z 0)), (3, Value.int x3), (4, Value.int x4), (5, Value.int x5), (6, Value.long y4), (8, Value.int x8), (9, Value.int x9), (10, Value.int x10)]) dX5_digestCell_56 (Nat.le_of_ble_eq_true rfl) [1, 2, 3, 4, 0, 5, 6, 7] rfl ?_
      refine r_iinc (lv' := [(0, Value.ref (aC Z 0)), (3, Value.int x3), (4, Value.int x4), (5, Value.int x5), (6, Value.long y4), (8, Value.int x8), (9, Value.int x9), (10, Value.int (x10 + 1))]) dX5_digestCell_58 7 rfl (by rfl) (Nat.le_of_ble_eq_true rfl) [1, 2, 3, 4, 5, 6, 7, 0] rfl ?_
      refine r_goto (tgt := 29) dX5_digestCell_61 (by decide) ?_
      exact ih y4 (x10 + 1) w
def f_X5_digestCell_b20 (x3 : Int32) (x4 : Int32) (x5 : Int32) (x8 : Int32) : Nat → Int64 → Int32 → Wd → Option (Int64 × Wd)
  | 0, _, _, _ => none
  | n + 1, x6, x9, w =>
  if (3 : Int32) ≤ x9 then ((f_X2_markOf x8 w).bind (fun z8 => jlet (((31 : Int64) * x6) + ((z8.1).toInt64)) (fun y9 => if z8.1 = 0 then ((f_X2_distanceOf x8 z8.2).bind (fun z14 => some ((((31 : Int64) * y9) + ((z14.1).toInt64)), z14.2))) else (if z8.1 = (4 : Int32) then ((f_X2_nearOf x8 z8.2).bind (fun z10 => jlet (((31 : Int64) * y9) + ((z10.1).toInt64)) (fun y11 => (f_X2_beyondOf x8 z10.2).bind (fun z12 => jlet (((31 : Int64) * y11) + ((z12.1).toInt64)) (fun y13 => f_X5_digestCell_b160 x3 x4 x5 y13 z12.2))))) else (f_X5_digestCell_b160 x3 x4 x5 y9 z8.2))))) else (f_X5_digestCell_b29 x3 x4 x5 x8 x9 (f_X5_digestCell_b20 x3 x4 x5 x8 n) FUEL x6 (0 : Int32) w)
set_option maxRecDepth 100000 in
set_option maxHeartbeats 4000000 in
theorem wk_X5_digestCell_b20 (Z : CSp) (x3 : Int32) (x4 : Int32) (x5 : Int32) (x8 : Int32)  : ∀ (n : Nat) (x6 : Int64) (x9 : Int32) (w : Wd), Wm (EC Z) MX5_digestCell oLw w 20 [(0, Value.ref (aC Z 0)), (3, Value.int x3), (4, Value.int x4), (5, Value.int x5), (6, Value.long x6), (8, Value.int x8), (9, Value.int x9)] [] (f_X5_digestCell_b20 x3 x4 x5 x8 n x6 x9 w) := by
  intro n
  induction n with
  | zero =>
    intro x6 x9 w
    exact r_none
  | succ n ih =>
    intro x6 x9 w
    rw [f_X5_digestCell_b20]
    refine r_iload dX5_digestCell_20 6 rfl ?_
    refine r_iconst (v := 3) dX5_digestCell_22 (by decide) ?_
    refine r_icmp_ge (tgt := 70) dX5_digestCell_23 (by decide) (fun _ => ?_) (fun _ => ?_)
    · refine r_aload_n dX5_digestCell_70 0 rfl ?_
      refine r_get FX5 0 (Nat.le_of_ble_eq_true rfl) kf_X5_12 0 (qC_0 Z w) rfl dX5_digestCell_71 ?_
      refine r_iload dX5_digestCell_74 5 rfl ?_
      refine r_callV_Iw [Value.int x8] cfX2_markOf (m_X2_markOf Z w x8) km_X5_129 ⟨rfl, rfl, (Nat.le_of_ble_eq_true rfl), (Nat.le_of_ble_eq_true rfl)⟩ rfl rfl 1 (qC_1 Z w) rfl rfl (Nat.le_of_ble_eq_true rfl) dX5_digestCell_76 (fun z8 => ?_)
      refine r_istore (lv' := [(0, Value.ref (aC Z 0)), (3, Value.int x3), (4, Value.int x4), (5, Value.int x5), (6, Value.long x6), (8, Value.int x8), (9, Value.int z8.1)]) dX5_digestCell_79 (Nat.le_of_ble_eq_true rfl) [1, 2, 3, 4, 5, 6, 0] rfl ?_
      refine r_ldc2 dX5_digestCell_81 kk_X5_209 ?_
      refine r_lload dX5_digestCell_84 4 rfl ?_
      refine r_lmul dX5_digestCell_86 ?_
      refine r_iload dX5_digestCell_87 6 rfl ?_
      refine r_i2l dX5_digestCell_89 ?_
      refine r_ladd dX5_digestCell_90 ?_
      refine r_letl (fun y9 => ?_)
      refine r_lstore (lv' := [(0, Value.ref (aC Z 0)), (3, Value.int x3), (4, Value.int x4), (5, Value.int x5), (6, Value.long y9), (8, Value.int x8), (9, Value.int z8.1)]) dX5_digestCell_91 (Nat.le_of_ble_eq_true rfl) [1, 2, 3, 4, 0, 5, 6] rfl ?_
      refine r_iload dX5_digestCell_93 6 rfl ?_
      refine r_if_ne (tgt := 116) dX5_digestCell_95 (by decide) (fun _ => ?_) (fun _ => ?_)
      · refine r_iload dX5_digestCell_116 6 rfl ?_
        refine r_iconst (v := 4) dX5_digestCell_118 (by decide) ?_
        refine r_icmp_ne (tgt := 160) dX5_digestCell_119 (by decide) (fun _ => ?_) (fun _ => ?_)
        · refine r_lv [0, 1, 2, 3, 4] rfl ?_
          exact wk_X5_digestCell_b160 Z z8.2 x3 x4 x5 y9
        · refine r_ldc2 dX5_digestCell_122 kk_X5_209 ?_
          refine r_lload dX5_digestCell_125 4 rfl ?_
          refine r_lmul dX5_digestCell_127 ?_
          refine r_aload_n dX5_digestCell_128 0 rfl ?_
          refine r_get FX5 0 (Nat.le_of_ble_eq_true rfl) kf_X5_12 0 (qC_0 Z z8.2) rfl dX5_digestCell_129 ?_
          refine r_iload dX5_digestCell_132 5 rfl ?_
          refine r_callV_Iw [Value.int x8] cfX2_nearOf (m_X2_nearOf Z z8.2 x8) km_X5_138 ⟨rfl, rfl, (Nat.le_of_ble_eq_true rfl), (Nat.le_of_ble_eq_true rfl)⟩ rfl rfl 1 (qC_1 Z z8.2) rfl rfl (Nat.le_of_ble_eq_true rfl) dX5_digestCell_134 (fun z10 => ?_)
          refine r_i2l dX5_digestCell_137 ?_
          refine r_ladd dX5_digestCell_138 ?_
          refine r_letl (fun y11 => ?_)
          refine r_lstore (lv' := [(0, Value.ref (aC Z 0)), (3, Value.int x3), (4, Value.int x4), (5, Value.int x5), (6, Value.long y11), (8, Value.int x8), (9, Value.int z8.1)]) dX5_digestCell_139 (Nat.le_of_ble_eq_true rfl) [1, 2, 3, 4, 0, 5, 6] rfl ?_
          refine r_ldc2 dX5_digestCell_141 kk_X5_209 ?_
          refine r_lload dX5_digestCell_144 4 rfl ?_
          refine r_lmul dX5_digestCell_146 ?_
          refine r_aload_n dX5_digestCell_147 0 rfl ?_
          refine r_get FX5 0 (Nat.le_of_ble_eq_true rfl) kf_X5_12 0 (qC_0 Z z10.2) rfl dX5_digestCell_148 ?_
          refine r_iload dX5_digestCell_151 5 rfl ?_
          refine r_callV_Iw [Value.int x8] cfX2_beyondOf (m_X2_beyondOf Z z10.2 x8) km_X5_141 ⟨rfl, rfl, (Nat.le_of_ble_eq_true rfl), (Nat.le_of_ble_eq_true rfl)⟩ rfl rfl 1 (qC_1 Z z10.2) rfl rfl (Nat.le_of_ble_eq_true rfl) dX5_digestCell_153 (fun z12 => ?_)
          refine r_i2l dX5_digestCell_156 ?_
          refine r_ladd dX5_digestCell_157 ?_
          refine r_letl (fun y13 => ?_)
          refine r_lstore (lv' := [(0, Value.ref (aC Z 0)), (3, Value.int x3), (4, Value.int x4), (5, Value.int x5), (6, Value.long y13), (8, Value.int x8), (9, Value.int z8.1)]) dX5_digestCell_158 (Nat.le_of_ble_eq_true rfl) [1, 2, 3, 4, 0, 5, 6] rfl ?_
          refine r_lv [0, 1, 2, 3, 4] rfl ?_
          exact wk_X5_digestCell_b160 Z z12.2 x3 x4 x5 y13
      · refine r_ldc2 dX5_digestCell_98 kk_X5_209 ?_
        refine r_lload dX5_digestCell_101 4 rfl ?_
        refine r_lmul dX5_digestCell_103 ?_
        refine r_aload_n dX5_digestCell_104 0 rfl ?_
        refine r_get FX5 0 (Nat.le_of_ble_eq_true rfl) kf_X5_12 0 (qC_0 Z z8.2) rfl dX5_digestCell_105 ?_
        refine r_iload dX5_digestCell_108 5 rfl ?_
        refine r_callV_Iw [Value.int x8] cfX2_distanceOf (m_X2_distanceOf Z z8.2 x8) km_X5_132 ⟨rfl, rfl, (Nat.le_of_ble_eq_true rfl), (Nat.le_of_ble_eq_true rfl)⟩ rfl rfl 1 (qC_1 Z z8.2) rfl rfl (Nat.le_of_ble_eq_true rfl) dX5_digestCell_110 (fun z14 => ?_)
        refine r_i2l dX5_digestCell_113 ?_
        refine r_ladd dX5_digestCell_114 ?_
        exact r_lretw rfl dX5_digestCell_115
    · refine r_iconst (v := 0) dX5_digestCell_26 (by decide) ?_
      refine r_istore (lv' := [(0, Value.ref (aC Z 0)), (3, Value.int x3), (4, Value.int x4), (5, Value.int x5), (6, Value.long x6), (8, Value.int x8), (9, Value.int x9), (10, Value.int (0 : Int32))]) dX5_digestCell_27 (Nat.le_of_ble_eq_true rfl) [1, 2, 3, 4, 5, 6, 7, 0] rfl ?_
      exact wk_X5_digestCell_b29 Z x3 x4 x5 x8 x9 _ (ih) FUEL x6 (0 : Int32) w
def f_X5_digestCell (x1 : Int64) (x3 : Int32) (x4 : Int32) (x5 : Int32) (w : Wd) : Option (Int64 × Wd) :=
  (f_X4_place x3 x4 x5 w).bind (fun v1 => f_X5_digestCell_b20 x3 x4 x5 v1 FUEL x1 (0 : Int32) w)
set_option maxRecDepth 100000 in
set_option maxHeartbeats 4000000 in
theorem wk_X5_digestCell (Z : CSp) (w : Wd) (x1 : Int64) (x3 : Int32) (x4 : Int32) (x5 : Int32)  : Wm (EC Z) MX5_digestCell oLw w 0 [(0, Value.ref (aC Z 0)), (1, Value.long x1), (3, Value.int x3), (4, Value.int x4), (5, Value.int x5)] [] (f_X5_digestCell x1 x3 x4 x5 w) := by
  unfold f_X5_digestCell
  refine r_lload_n dX5_digestCell_0 1 rfl ?_
  refine r_lstore (lv' := [(0, Value.ref (aC Z 0)), (1, Value.long x1), (3, Value.int x3), (4, Value.int x4), (5, Value.int x5), (6, Value.long x1)]) dX5_digestCell_1 (Nat.le_of_ble_eq_true rfl) [1, 2, 3, 4, 5, 0] rfl ?_
  refine r_aload_n dX5_digestCell_3 0 rfl ?_
  refine r_get FX5 1 (Nat.le_of_ble_eq_true rfl) kf_X5_20 0 (qC_0 Z w) rfl dX5_digestCell_4 ?_
  refine r_iload_n dX5_digestCell_7 2 rfl ?_
  refine r_iload dX5_digestCell_8 3 rfl ?_
  refine r_iload dX5_digestCell_10 4 rfl ?_
  refine r_callV_I [Value.int x3, Value.int x4, Value.int x5] cfX4_place (m_X4_place Z w x3 x4 x5) km_X5_71 ⟨rfl, rfl, (Nat.le_of_ble_eq_true rfl), (Nat.le_of_ble_eq_true rfl)⟩ rfl rfl 10 (qC_10 Z w) rfl rfl (Nat.le_of_ble_eq_true rfl) dX5_digestCell_12 (fun v1 => ?_)
  refine r_istore (lv' := [(0, Value.ref (aC Z 0)), (1, Value.long x1), (3, Value.int x3), (4, Value.int x4), (5, Value.int x5), (6, Value.long x1), (8, Value.int v1)]) dX5_digestCell_15 (Nat.le_of_ble_eq_true rfl) [1, 2, 3, 4, 5, 6, 0] rfl ?_
  refine r_iconst (v := 0) dX5_digestCell_17 (by decide) ?_
  refine r_istore (lv' := [(0, Value.ref (aC Z 0)), (1, Value.long x1), (3, Value.int x3), (4, Value.int x4), (5, Value.int x5), (6, Value.long x1), (8, Value.int v1), (9, Value.int (0 : Int32))]) dX5_digestCell_18 (Nat.le_of_ble_eq_true rfl) [1, 2, 3, 4, 5, 6, 7, 0] rfl ?_
  refine r_lv [0, 2, 3, 4, 5, 6, 7] rfl ?_
  exact wk_X5_digestCell_b20 Z x3 x4 x5 v1 FUEL x1 (0 : Int32) w
theorem m_X5_digestCell (Z : CSp) (w : Wd) (x1 : Int64) (x3 : Int32) (x4 : Int32) (x5 : Int32) : MetM (EC Z) yX5_digestCell cX5_digestCell 11 (some .long) { frames := 6, cells := 0, slots := 0, locals := 152 } oLw [Value.ref (aC Z 0), Value.long x1, Value.int x3, Value.int x4, Value.int x5] w (f_X5_digestCell x1 x3 x4 x5 w) := MetM_of (plainFor_of_name (by decide)) (Nat.le_of_ble_eq_true rfl) (wk_X5_digestCell Z w x1 x3 x4 x5)
abbrev MX5_tally : Mt := (cX5_tally, RX5, 2, some .int, { frames := 0, cells := 0, slots := 0, locals := 0 })
def f_X5_tally (x1 : Int32) (w : Wd) : Option (Int32) :=
  if x1 = 0 then (some (w.1 0 6)) else (if x1 = 1 then (some (w.1 0 7)) else (if x1 = 2 then (some (w.1 0 8)) else (if x1 = 3 then (some (w.1 6 1)) else (some (w.1 0 4)))))
set_option maxRecDepth 100000 in
set_option maxHeartbeats 4000000 in
theorem wk_X5_tally (Z : CSp) (w : Wd) (x1 : Int32)  : Wm (EC Z) MX5_tally (oI w) w 0 [(0, Value.ref (aC Z 0)), (1, Value.int x1)] [] (f_X5_tally x1 w) := by
  unfold f_X5_tally
  refine r_iload_n dX5_tally_0 1 rfl ?_
  refine r_split (fun h0 => ?_) (fun h0 => ?_)
  · refine r_tin (k := 0) (tgt := 32) dX5_tally_1 h0 (by decide) ?_
    refine r_aload_n dX5_tally_32 0 rfl ?_
    refine r_get FX5 6 (Nat.le_of_ble_eq_true rfl) kf_X5_44 0 (qC_0 Z w) rfl dX5_tally_33 ?_
    exact r_iret rfl dX5_tally_36
  refine r_split (fun h1 => ?_) (fun h1 => ?_)
  · refine r_tin (k := 1) (tgt := 37) dX5_tally_1 h1 (by decide) ?_
    refine r_aload_n dX5_tally_37 0 rfl ?_
    refine r_get FX5 7 (Nat.le_of_ble_eq_true rfl) kf_X5_47 0 (qC_0 Z w) rfl dX5_tally_38 ?_
    exact r_iret rfl dX5_tally_41
  refine r_split (fun h2 => ?_) (fun h2 => ?_)
  · refine r_tin (k := 2) (tgt := 42) dX5_tally_1 h2 (by decide) ?_
    refine r_aload_n dX5_tally_42 0 rfl ?_
    refine r_get FX5 8 (Nat.le_of_ble_eq_true rfl) kf_X5_50 0 (qC_0 Z w) rfl dX5_tally_43 ?_
    exact r_iret rfl dX5_tally_46
  refine r_split (fun h3 => ?_) (fun h3 => ?_)
  · refine r_tin (k := 3) (tgt := 47) dX5_tally_1 h3 (by decide) ?_
    refine r_aload_n dX5_tally_47 0 rfl ?_
    refine r_get FX5 5 (Nat.le_of_ble_eq_true rfl) kf_X5_40 0 (qC_0 Z w) rfl dX5_tally_48 ?_
    refine r_get FX1 1 (Nat.le_of_ble_eq_true rfl) kf_X5_179 6 (qC_6 Z w) rfl dX5_tally_51 ?_
    exact r_iret rfl dX5_tally_54
  refine r_tout (tgt := 55) dX5_tally_1 (by have g0 := lv_neT h0 (a := 0) (by decide); have g1 := lv_neT h1 (a := 1) (by decide); have g2 := lv_neT h2 (a := 2) (by decide); have g3 := lv_neT h3 (a := 3) (by decide); omega) (by decide) ?_
  refine r_aload_n dX5_tally_55 0 rfl ?_
  refine r_get FX5 4 (Nat.le_of_ble_eq_true rfl) kf_X5_33 0 (qC_0 Z w) rfl dX5_tally_56 ?_
  exact r_iret rfl dX5_tally_59
theorem m_X5_tally (Z : CSp) (w : Wd) (x1 : Int32) : MetM (EC Z) yX5_tally cX5_tally 2 (some .int) { frames := 0, cells := 0, slots := 0, locals := 0 } (oI w) [Value.ref (aC Z 0), Value.int x1] w (f_X5_tally x1 w) := MetM_of (plainFor_of_name (by decide)) (Nat.le_of_ble_eq_true rfl) (wk_X5_tally Z w x1)
abbrev MX5_digest : Mt := (cX5_digest, RX5, 6, some .long, { frames := 7, cells := 0, slots := 0, locals := 182 })
def f_X5_digest_b128  : Nat → Int64 → Int32 → Wd → Option (Int64 × Wd)
  | 0, _, _, _ => none
  | n + 1, x1, x3, w =>
  if (2 : Int32) ≤ x3 then (some (x1, w)) else ((f_X2_meanBits x3 w).bind (fun z3 => jlet (((31 : Int64) * x1) + z3.1) (fun y4 => f_X5_digest_b128 n y4 (x3 + 1) z3.2)))
set_option maxRecDepth 100000 in
set_option maxHeartbeats 4000000 in
theorem wk_X5_digest_b128 (Z : CSp)   : ∀ (n : Nat) (x1 : Int64) (x3 : Int32) (w : Wd), Wm (EC Z) MX5_digest oLw w 128 [(0, Value.ref (aC Z 0)), (1, Value.long x1), (3, Value.int x3)] [] (f_X5_digest_b128  n x1 x3 w) := by
  intro n
  induction n with
  | zero =>
    intro x1 x3 w
    exact r_none
  | succ n ih =>
    intro x1 x3 w
    rw [f_X5_digest_b128]
    refine r_iload_n dX5_digest_128 2 rfl ?_
    refine r_iconst (v := 2) dX5_digest_129 (by decide) ?_
    refine r_icmp_ge (tgt := 154) dX5_digest_130 (by decide) (fun _ => ?_) (fun _ => ?_)
    · refine r_lload_n dX5_digest_154 1 rfl ?_
      exact r_lretw rfl dX5_digest_155
    · refine r_ldc2 dX5_digest_133 kk_X5_209 ?_
      refine r_lload_n dX5_digest_136 1 rfl ?_
      refine r_lmul dX5_digest_137 ?_
      refine r_aload_n dX5_digest_138 0 rfl ?_
      refine r_get FX5 0 (Nat.le_of_ble_eq_true rfl) kf_X5_12 0 (qC_0 Z w) rfl dX5_digest_139 ?_
      refine r_iload_n dX5_digest_142 2 rfl ?_
      refine r_callV_Lw [Value.int x3] cfX2_meanBits (m_X2_meanBits Z w x3) km_X5_168 ⟨rfl, rfl, (Nat.le_of_ble_eq_true rfl), (Nat.le_of_ble_eq_true rfl)⟩ rfl rfl 1 (qC_1 Z w) rfl rfl (Nat.le_of_ble_eq_true rfl) dX5_digest_143 (fun z3 => ?_)
      refine r_ladd dX5_digest_146 ?_
      refine r_letl (fun y4 => ?_)
      refine r_lstore_n (lv' := [(0, Value.ref (aC Z 0)), (1, Value.long y4), (3, Value.int x3)]) dX5_digest_147 (Nat.le_of_ble_eq_true rfl) [1, 0, 2] rfl ?_
      refine r_iinc (lv' := [(0, Value.ref (aC Z 0)), (1, Value.long y4), (3, Value.int (x3 + 1))]) dX5_digest_148 2 rfl (by rfl) (Nat.le_of_ble_eq_true rfl) [1, 2, 0] rfl ?_
      refine r_goto (tgt := 128) dX5_digest_151 (by decide) ?_
      exact ih y4 (x3 + 1) z3.2
def f_X5_digest_b85 (x3 : Int32) (x4 : Int32) (k70 : Int64 → Int32 → Wd → Option (Int64 × Wd)) : Nat → Int64 → Int32 → Wd → Option (Int64 × Wd)
  | 0, _, _, _ => none
  | n + 1, x1, x5, w =>
  if (w.1 10 0) ≤ x5 then (k70 x1 (x4 + 1) w) else ((f_X5_digestCell x1 x3 x5 x4 w).bind (fun z2 => f_X5_digest_b85 x3 x4 k70 n z2.1 (x5 + 1) z2.2))
set_option maxRecDepth 100000 in
set_option maxHeartbeats 4000000 in
theorem wk_X5_digest_b85 (Z : CSp) (x3 : Int32) (x4 : Int32) (k70 : Int64 → Int32 → Wd → Option (Int64 × Wd)) (hk70 : ∀ (x1 : Int64) (x4 : Int32) (w : Wd), Wm (EC Z) MX5_digest oLw w 70 [(0, Value.ref (aC Z 0)), (1, Value.long x1), (3, Value.int x3), (4, Value.int x4)] [] (k70 x1 x4 w)) : ∀ (n : Nat) (x1 : Int64) (x5 : Int32) (w : Wd), Wm (EC Z) MX5_digest oLw w 85 [(0, Value.ref (aC Z 0)), (1, Value.long x1), (3, Value.int x3), (4, Value.int x4), (5, Value.int x5)] [] (f_X5_digest_b85 x3 x4 k70 n x1 x5 w) := by
  intro n
  induction n with
  | zero =>
    intro x1 x5 w
    exact r_none
  | succ n ih =>
    intro x1 x5 w
    rw [f_X5_digest_b85]
    refine r_iload dX5_digest_85 4 rfl ?_
    refine r_aload_n dX5_digest_87 0 rfl ?_
    refine r_get FX5 1 (Nat.le_of_ble_eq_true rfl) kf_X5_20 0 (qC_0 Z w) rfl dX5_digest_88 ?_
    refine r_get FX4 0 (Nat.le_of_ble_eq_true rfl) kf_X5_157 10 (qC_10 Z w) rfl dX5_digest_91 ?_
    refine r_icmp_ge (tgt := 114) dX5_digest_94 (by decide) (fun _ => ?_) (fun _ => ?_)
    · refine r_iinc (lv' := [(0, Value.ref (aC Z 0)), (1, Value.long x1), (3, Value.int x3), (4, Value.int (x4 + 1)), (5, Value.int x5)]) dX5_digest_114 3 rfl (by rfl) (Nat.le_of_ble_eq_true rfl) [1, 2, 3, 0, 4] rfl ?_
      refine r_goto (tgt := 70) dX5_digest_117 (by decide) ?_
      refine r_lv [0, 1, 2, 3] rfl ?_
      exact hk70 x1 (x4 + 1) w
    · refine r_aload_n dX5_digest_97 0 rfl ?_
      refine r_lload_n dX5_digest_98 1 rfl ?_
      refine r_iload_n dX5_digest_99 2 rfl ?_
      refine r_iload dX5_digest_100 4 rfl ?_
      refine r_iload dX5_digest_102 3 rfl ?_
      refine r_callV_Lw [Value.long x1, Value.int x3, Value.int x5, Value.int x4] cfX5_digestCell (m_X5_digestCell Z w x1 x3 x5 x4) km_X5_211 ⟨rfl, rfl, (Nat.le_of_ble_eq_true rfl), (Nat.le_of_ble_eq_true rfl)⟩ rfl rfl 0 (qC_0 Z w) rfl rfl (Nat.le_of_ble_eq_true rfl) dX5_digest_104 (fun z2 => ?_)
      refine r_lstore_n (lv' := [(0, Value.ref (aC Z 0)), (1, Value.long z2.1), (3, Value.int x3), (4, Value.int x4), (5, Value.int x5)]) dX5_digest_107 (Nat.le_of_ble_eq_true rfl) [1, 0, 2, 3, 4] rfl ?_
      refine r_iinc (lv' := [(0, Value.ref (aC Z 0)), (1, Value.long z2.1), (3, Value.int x3), (4, Value.int x4), (5, Value.int (x5 + 1))]) dX5_digest_108 4 rfl (by rfl) (Nat.le_of_ble_eq_true rfl) [1, 2, 3, 4, 0] rfl ?_
      refine r_goto (tgt := 85) dX5_digest_111 (by decide) ?_
      exact ih z2.1 (x5 + 1) z2.2
def f_X5_digest_b70 (x3 : Int32) (k62 : Int64 → Int32 → Wd → Option (Int64 × Wd)) : Nat → Int64 → Int32 → Wd → Option (Int64 × Wd)
  | 0, _, _, _ => none
  | n + 1, x1, x4, w =>
  if (w.1 10 1) ≤ x4 then (k62 x1 (x3 + 1) w) else (f_X5_digest_b85 x3 x4 (f_X5_digest_b70 x3 k62 n) FUEL x1 (0 : Int32) w)
set_option maxRecDepth 100000 in
set_option maxHeartbeats 4000000 in
theorem wk_X5_digest_b70 (Z : CSp) (x3 : Int32) (k62 : Int64 → Int32 → Wd → Option (Int64 × Wd)) (hk62 : ∀ (x1 : Int64) (x3 : Int32) (w : Wd), Wm (EC Z) MX5_digest oLw w 62 [(0, Value.ref (aC Z 0)), (1, Value.long x1), (3, Value.int x3)] [] (k62 x1 x3 w)) : ∀ (n : Nat) (x1 : Int64) (x4 : Int32) (w : Wd), Wm (EC Z) MX5_digest oLw w 70 [(0, Value.ref (aC Z 0)), (1, Value.long x1), (3, Value.int x3), (4, Value.int x4)] [] (f_X5_digest_b70 x3 k62 n x1 x4 w) := by
  intro n
  induction n with
  | zero =>
    intro x1 x4 w
    exact r_none
  | succ n ih =>
    intro x1 x4 w
    rw [f_X5_digest_b70]
    refine r_iload dX5_digest_70 3 rfl ?_
    refine r_aload_n dX5_digest_72 0 rfl ?_
    refine r_get FX5 1 (Nat.le_of_ble_eq_true rfl) kf_X5_20 0 (qC_0 Z w) rfl dX5_digest_73 ?_
    refine r_get FX4 1 (Nat.le_of_ble_eq_true rfl) kf_X5_154 10 (qC_10 Z w) rfl dX5_digest_76 ?_
    refine r_icmp_ge (tgt := 120) dX5_digest_79 (by decide) (fun _ => ?_) (fun _ => ?_)
    · refine r_iinc (lv' := [(0, Value.ref (aC Z 0)), (1, Value.long x1), (3, Value.int (x3 + 1)), (4, Value.int x4)]) dX5_digest_120 2 rfl (by rfl) (Nat.le_of_ble_eq_true rfl) [1, 2, 0, 3] rfl ?_
      refine r_goto (tgt := 62) dX5_digest_123 (by decide) ?_
      refine r_lv [0, 1, 2] rfl ?_
      exact hk62 x1 (x3 + 1) w
    · refine r_iconst (v := 0) dX5_digest_82 (by decide) ?_
      refine r_istore (lv' := [(0, Value.ref (aC Z 0)), (1, Value.long x1), (3, Value.int x3), (4, Value.int x4), (5, Value.int (0 : Int32))]) dX5_digest_83 (Nat.le_of_ble_eq_true rfl) [1, 2, 3, 4, 0] rfl ?_
      exact wk_X5_digest_b85 Z x3 x4 _ (ih) FUEL x1 (0 : Int32) w
def f_X5_digest_b62  : Nat → Int64 → Int32 → Wd → Option (Int64 × Wd)
  | 0, _, _, _ => none
  | n + 1, x1, x3, w =>
  if (2 : Int32) ≤ x3 then (f_X5_digest_b128 FUEL x1 (0 : Int32) w) else (f_X5_digest_b70 x3 (f_X5_digest_b62 n) FUEL x1 (0 : Int32) w)
set_option maxRecDepth 100000 in
set_option maxHeartbeats 4000000 in
theorem wk_X5_digest_b62 (Z : CSp)   : ∀ (n : Nat) (x1 : Int64) (x3 : Int32) (w : Wd), Wm (EC Z) MX5_digest oLw w 62 [(0, Value.ref (aC Z 0)), (1, Value.long x1), (3, Value.int x3)] [] (f_X5_digest_b62  n x1 x3 w) := by
  intro n
  induction n with
  | zero =>
    intro x1 x3 w
    exact r_none
  | succ n ih =>
    intro x1 x3 w
    rw [f_X5_digest_b62]
    refine r_iload_n dX5_digest_62 2 rfl ?_
    refine r_iconst (v := 2) dX5_digest_63 (by decide) ?_
    refine r_icmp_ge (tgt := 126) dX5_digest_64 (by decide) (fun _ => ?_) (fun _ => ?_)
    · refine r_iconst (v := 0) dX5_digest_126 (by decide) ?_
      refine r_istore_n (lv' := [(0, Value.ref (aC Z 0)), (1, Value.long x1), (3, Value.int (0 : Int32))]) dX5_digest_127 (Nat.le_of_ble_eq_true rfl) [1, 2, 0] rfl ?_
      exact wk_X5_digest_b128 Z FUEL x1 (0 : Int32) w
    · refine r_iconst (v := 0) dX5_digest_67 (by decide) ?_
      refine r_istore (lv' := [(0, Value.ref (aC Z 0)), (1, Value.long x1), (3, Value.int x3), (4, Value.int (0 : Int32))]) dX5_digest_68 (Nat.le_of_ble_eq_true rfl) [1, 2, 3, 0] rfl ?_
      exact wk_X5_digest_b70 Z x3 _ (ih) FUEL x1 (0 : Int32) w
def f_X5_digest_b32  : Nat → Int64 → Int32 → Wd → Option (Int64 × Wd)
  | 0, _, _, _ => none
  | n + 1, x1, x3, w =>
  if (10 : Int32) < x3 then (f_X5_digest_b62 FUEL x1 (0 : Int32) w) else ((f_X4_setting x3 w).bind (fun v3 => jlet (((31 : Int64) * x1) + ((v3).toInt64)) (fun y4 => f_X5_digest_b32 n y4 (x3 + 1) w)))
set_option maxRecDepth 100000 in
set_option maxHeartbeats 4000000 in
theorem wk_X5_digest_b32 (Z : CSp)   : ∀ (n : Nat) (x1 : Int64) (x3 : Int32) (w : Wd), Wm (EC Z) MX5_digest oLw w 32 [(0, Value.ref (aC Z 0)), (1, Value.long x1), (3, Value.int x3)] [] (f_X5_digest_b32  n x1 x3 w) := by
  intro n
  induction n with
  | zero =>
    intro x1 x3 w
    exact r_none
  | succ n ih =>
    intro x1 x3 w
    rw [f_X5_digest_b32]
    refine r_iload_n dX5_digest_32 2 rfl ?_
    refine r_bipush (v := 10) dX5_digest_33 (by decide) ?_
    refine r_icmp_gt (tgt := 60) dX5_digest_35 (by decide) (fun _ => ?_) (fun _ => ?_)
    · refine r_iconst (v := 0) dX5_digest_60 (by decide) ?_
      refine r_istore_n (lv' := [(0, Value.ref (aC Z 0)), (1, Value.long x1), (3, Value.int (0 : Int32))]) dX5_digest_61 (Nat.le_of_ble_eq_true rfl) [1, 2, 0] rfl ?_
      exact wk_X5_digest_b62 Z FUEL x1 (0 : Int32) w
    · refine r_ldc2 dX5_digest_38 kk_X5_209 ?_
      refine r_lload_n dX5_digest_41 1 rfl ?_
      refine r_lmul dX5_digest_42 ?_
      refine r_aload_n dX5_digest_43 0 rfl ?_
      refine r_get FX5 1 (Nat.le_of_ble_eq_true rfl) kf_X5_20 0 (qC_0 Z w) rfl dX5_digest_44 ?_
      refine r_iload_n dX5_digest_47 2 rfl ?_
      refine r_callV_I [Value.int x3] cfX4_setting (m_X4_setting Z w x3) km_X5_172 ⟨rfl, rfl, (Nat.le_of_ble_eq_true rfl), (Nat.le_of_ble_eq_true rfl)⟩ rfl rfl 10 (qC_10 Z w) rfl rfl (Nat.le_of_ble_eq_true rfl) dX5_digest_48 (fun v3 => ?_)
      refine r_i2l dX5_digest_51 ?_
      refine r_ladd dX5_digest_52 ?_
      refine r_letl (fun y4 => ?_)
      refine r_lstore_n (lv' := [(0, Value.ref (aC Z 0)), (1, Value.long y4), (3, Value.int x3)]) dX5_digest_53 (Nat.le_of_ble_eq_true rfl) [1, 0, 2] rfl ?_
      refine r_iinc (lv' := [(0, Value.ref (aC Z 0)), (1, Value.long y4), (3, Value.int (x3 + 1))]) dX5_digest_54 2 rfl (by rfl) (Nat.le_of_ble_eq_true rfl) [1, 2, 0] rfl ?_
      refine r_goto (tgt := 32) dX5_digest_57 (by decide) ?_
      exact ih y4 (x3 + 1) w
def f_X5_digest_b6  : Nat → Int64 → Int32 → Wd → Option (Int64 × Wd)
  | 0, _, _, _ => none
  | n + 1, x1, x3, w =>
  if (4 : Int32) < x3 then (f_X5_digest_b32 FUEL x1 (0 : Int32) w) else ((f_X5_tally x3 w).bind (fun v3 => jlet (((31 : Int64) * x1) + ((v3).toInt64)) (fun y4 => f_X5_digest_b6 n y4 (x3 + 1) w)))
set_option maxRecDepth 100000 in
set_option maxHeartbeats 4000000 in
theorem wk_X5_digest_b6 (Z : CSp)   : ∀ (n : Nat) (x1 : Int64) (x3 : Int32) (w : Wd), Wm (EC Z) MX5_digest oLw w 6 [(0, Value.ref (aC Z 0)), (1, Value.long x1), (3, Value.int x3)] [] (f_X5_digest_b6  n x1 x3 w) := by
  intro n
  induction n with
  | zero =>
    intro x1 x3 w
    exact r_none
  | succ n ih =>
    intro x1 x3 w
    rw [f_X5_digest_b6]
    refine r_iload_n dX5_digest_6 2 rfl ?_
    refine r_iconst (v := 4) dX5_digest_7 (by decide) ?_
    refine r_icmp_gt (tgt := 30) dX5_digest_8 (by decide) (fun _ => ?_) (fun _ => ?_)
    · refine r_iconst (v := 0) dX5_digest_30 (by decide) ?_
      refine r_istore_n (lv' := [(0, Value.ref (aC Z 0)), (1, Value.long x1), (3, Value.int (0 : Int32))]) dX5_digest_31 (Nat.le_of_ble_eq_true rfl) [1, 2, 0] rfl ?_
      exact wk_X5_digest_b32 Z FUEL x1 (0 : Int32) w
    · refine r_ldc2 dX5_digest_11 kk_X5_209 ?_
      refine r_lload_n dX5_digest_14 1 rfl ?_
      refine r_lmul dX5_digest_15 ?_
      refine r_aload_n dX5_digest_16 0 rfl ?_
      refine r_iload_n dX5_digest_17 2 rfl ?_
      refine r_callV_I [Value.int x3] cfX5_tally (m_X5_tally Z w x3) km_X5_204 ⟨rfl, rfl, (Nat.le_of_ble_eq_true rfl), (Nat.le_of_ble_eq_true rfl)⟩ rfl rfl 0 (qC_0 Z w) rfl rfl (Nat.le_of_ble_eq_true rfl) dX5_digest_18 (fun v3 => ?_)
      refine r_i2l dX5_digest_21 ?_
      refine r_ladd dX5_digest_22 ?_
      refine r_letl (fun y4 => ?_)
      refine r_lstore_n (lv' := [(0, Value.ref (aC Z 0)), (1, Value.long y4), (3, Value.int x3)]) dX5_digest_23 (Nat.le_of_ble_eq_true rfl) [1, 0, 2] rfl ?_
      refine r_iinc (lv' := [(0, Value.ref (aC Z 0)), (1, Value.long y4), (3, Value.int (x3 + 1))]) dX5_digest_24 2 rfl (by rfl) (Nat.le_of_ble_eq_true rfl) [1, 2, 0] rfl ?_
      refine r_goto (tgt := 6) dX5_digest_27 (by decide) ?_
      exact ih y4 (x3 + 1) w
def f_X5_digest (w : Wd) : Option (Int64 × Wd) :=
  f_X5_digest_b6 FUEL (1689 : Int64) (0 : Int32) w
set_option maxRecDepth 100000 in
set_option maxHeartbeats 4000000 in
theorem wk_X5_digest (Z : CSp) (w : Wd)   : Wm (EC Z) MX5_digest oLw w 0 [(0, Value.ref (aC Z 0))] [] (f_X5_digest w) := by
  unfold f_X5_digest
  refine r_ldc2 dX5_digest_0 kk_X5_207 ?_
  refine r_lstore_n (lv' := [(0, Value.ref (aC Z 0)), (1, Value.long (1689 : Int64))]) dX5_digest_3 (Nat.le_of_ble_eq_true rfl) [1, 0] rfl ?_
  refine r_iconst (v := 0) dX5_digest_4 (by decide) ?_
  refine r_istore_n (lv' := [(0, Value.ref (aC Z 0)), (1, Value.long (1689 : Int64)), (3, Value.int (0 : Int32))]) dX5_digest_5 (Nat.le_of_ble_eq_true rfl) [1, 2, 0] rfl ?_
  exact wk_X5_digest_b6 Z FUEL (1689 : Int64) (0 : Int32) w
theorem m_X5_digest (Z : CSp) (w : Wd)  : MetM (EC Z) yX5_digest cX5_digest 6 (some .long) { frames := 7, cells := 0, slots := 0, locals := 182 } oLw [Value.ref (aC Z 0)] w (f_X5_digest w) := MetM_of (plainFor_of_name (by decide)) (Nat.le_of_ble_eq_true rfl) (wk_X5_digest Z w )
abbrev MX5_perform : Mt := (cX5_perform, RX5, 5, some .int, { frames := 5, cells := 0, slots := 0, locals := 118 })
def f_X5_perform_b253 (w : Wd) : Option (Int32 × Wd) :=
  some ((-10002 : Int32), w)
set_option maxRecDepth 100000 in
set_option maxHeartbeats 4000000 in
theorem wk_X5_perform_b253 (Z : CSp) (w : Wd)   : Wm (EC Z) MX5_perform oIw w 253 [] [] (f_X5_perform_b253 w) := by
  unfold f_X5_perform_b253
  refine r_sipush (v := -10002) dX5_perform_253 (by decide) ?_
  exact r_iretw rfl dX5_perform_256
def f_X5_perform (x1 : Int32) (w : Wd) : Option (Int32 × Wd) :=
  (f_X1_item (x1 + (1 : Int32)) w).bind (fun v1 => (f_X1_item (x1 + (2 : Int32)) w).bind (fun v2 => (f_X1_item (x1 + (3 : Int32)) w).bind (fun v3 => (f_X1_item x1 w).bind (fun v4 => if v4 = 99 then ((f_X4_place v1 v2 v3 w).bind (fun v5 => (f_X4_darken v5 w).bind (fun z6 => some (z6.1, z6.2)))) else (if v4 = 100 then (f_X5_perform_b253 w) else (if v4 = 101 then ((f_X4_place v1 v2 v3 w).bind (fun v7 => (f_X1_item (x1 + (4 : Int32)) w).bind (fun v8 => (f_X1_item (x1 + (5 : Int32)) w).bind (fun v9 => (f_X4_layEcho v7 v8 v9 w).bind (fun z10 => some (z10.1, z10.2)))))) else (if v4 = 102 then (f_X5_perform_b253 w) else (if v4 = 103 then ((f_X4_layGrid v1 v2 w).bind (fun z11 => some (z11.1, z11.2))) else (if v4 = 104 then (f_X5_perform_b253 w) else (if v4 = 105 then (f_X5_perform_b253 w) else (if v4 = 106 then (f_X5_perform_b253 w) else (if v4 = 107 then (f_X5_perform_b253 w) else (if v4 = 108 then ((f_X4_place v1 v2 v3 w).bind (fun v12 => (f_X1_item (x1 + (4 : Int32)) w).bind (fun v13 => (f_X4_addLight v12 v13 w).bind (fun z14 => some (z14.1, z14.2))))) else (if v4 = 109 then (f_X5_perform_b253 w) else (if v4 = 110 then (f_X5_perform_b253 w) else (if v4 = 111 then (f_X5_perform_b253 w) else (if v4 = 112 then (f_X5_perform_b253 w) else (if v4 = 113 then (f_X5_perform_b253 w) else (if v4 = 114 then (f_X5_perform_b253 w) else (if v4 = 115 then ((f_X4_putSetting v1 v2 w).bind (fun z15 => some (z15.1, z15.2))) else (if v4 = 116 then (f_X5_perform_b253 w) else (if v4 = 117 then (f_X5_perform_b253 w) else (if v4 = 118 then ((f_X4_putWave v1 v2 w).bind (fun z16 => some (z16.1, z16.2))) else (f_X5_perform_b253 w))))))))))))))))))))))))
set_option maxRecDepth 100000 in
set_option maxHeartbeats 4000000 in
theorem wk_X5_perform (Z : CSp) (w : Wd) (x1 : Int32)  : Wm (EC Z) MX5_perform oIw w 0 [(0, Value.ref (aC Z 0)), (1, Value.int x1)] [] (f_X5_perform x1 w) := by
  unfold f_X5_perform
  refine r_aload_n dX5_perform_0 0 rfl ?_
  refine r_get FX5 5 (Nat.le_of_ble_eq_true rfl) kf_X5_40 0 (qC_0 Z w) rfl dX5_perform_1 ?_
  refine r_iload_n dX5_perform_4 1 rfl ?_
  refine r_iconst (v := 1) dX5_perform_5 (by decide) ?_
  refine r_iadd dX5_perform_6 ?_
  refine r_callV_I [Value.int (x1 + (1 : Int32))] cfX1_item (m_X1_item Z w (x1 + (1 : Int32))) km_X5_192 ⟨rfl, rfl, (Nat.le_of_ble_eq_true rfl), (Nat.le_of_ble_eq_true rfl)⟩ rfl rfl 6 (qC_6 Z w) rfl rfl (Nat.le_of_ble_eq_true rfl) dX5_perform_7 (fun v1 => ?_)
  refine r_istore_n (lv' := [(0, Value.ref (aC Z 0)), (1, Value.int x1), (2, Value.int v1)]) dX5_perform_10 (Nat.le_of_ble_eq_true rfl) [1, 2, 0] rfl ?_
  refine r_aload_n dX5_perform_11 0 rfl ?_
  refine r_get FX5 5 (Nat.le_of_ble_eq_true rfl) kf_X5_40 0 (qC_0 Z w) rfl dX5_perform_12 ?_
  refine r_iload_n dX5_perform_15 1 rfl ?_
  refine r_iconst (v := 2) dX5_perform_16 (by decide) ?_
  refine r_iadd dX5_perform_17 ?_
  refine r_callV_I [Value.int (x1 + (2 : Int32))] cfX1_item (m_X1_item Z w (x1 + (2 : Int32))) km_X5_192 ⟨rfl, rfl, (Nat.le_of_ble_eq_true rfl), (Nat.le_of_ble_eq_true rfl)⟩ rfl rfl 6 (qC_6 Z w) rfl rfl (Nat.le_of_ble_eq_true rfl) dX5_perform_18 (fun v2 => ?_)
  refine r_istore_n (lv' := [(0, Value.ref (aC Z 0)), (1, Value.int x1), (2, Value.int v1), (3, Value.int v2)]) dX5_perform_21 (Nat.le_of_ble_eq_true rfl) [1, 2, 3, 0] rfl ?_
  refine r_aload_n dX5_perform_22 0 rfl ?_
  refine r_get FX5 5 (Nat.le_of_ble_eq_true rfl) kf_X5_40 0 (qC_0 Z w) rfl dX5_perform_23 ?_
  refine r_iload_n dX5_perform_26 1 rfl ?_
  refine r_iconst (v := 3) dX5_perform_27 (by decide) ?_
  refine r_iadd dX5_perform_28 ?_
  refine r_callV_I [Value.int (x1 + (3 : Int32))] cfX1_item (m_X1_item Z w (x1 + (3 : Int32))) km_X5_192 ⟨rfl, rfl, (Nat.le_of_ble_eq_true rfl), (Nat.le_of_ble_eq_true rfl)⟩ rfl rfl 6 (qC_6 Z w) rfl rfl (Nat.le_of_ble_eq_true rfl) dX5_perform_29 (fun v3 => ?_)
  refine r_istore (lv' := [(0, Value.ref (aC Z 0)), (1, Value.int x1), (2, Value.int v1), (3, Value.int v2), (4, Value.int v3)]) dX5_perform_32 (Nat.le_of_ble_eq_true rfl) [1, 2, 3, 4, 0] rfl ?_
  refine r_aload_n dX5_perform_34 0 rfl ?_
  refine r_get FX5 5 (Nat.le_of_ble_eq_true rfl) kf_X5_40 0 (qC_0 Z w) rfl dX5_perform_35 ?_
  refine r_iload_n dX5_perform_38 1 rfl ?_
  refine r_callV_I [Value.int x1] cfX1_item (m_X1_item Z w x1) km_X5_192 ⟨rfl, rfl, (Nat.le_of_ble_eq_true rfl), (Nat.le_of_ble_eq_true rfl)⟩ rfl rfl 6 (qC_6 Z w) rfl rfl (Nat.le_of_ble_eq_true rfl) dX5_perform_39 (fun v4 => ?_)
  refine r_split (fun h0 => ?_) (fun h0 => ?_)
  · refine r_tin (k := 99) (tgt := 234) dX5_perform_42 h0 (by decide) ?_
    refine r_aload_n dX5_perform_234 0 rfl ?_
    refine r_get FX5 1 (Nat.le_of_ble_eq_true rfl) kf_X5_20 0 (qC_0 Z w) rfl dX5_perform_235 ?_
    refine r_aload_n dX5_perform_238 0 rfl ?_
    refine r_get FX5 1 (Nat.le_of_ble_eq_true rfl) kf_X5_20 0 (qC_0 Z w) rfl dX5_perform_239 ?_
    refine r_iload_n dX5_perform_242 2 rfl ?_
    refine r_iload_n dX5_perform_243 3 rfl ?_
    refine r_iload dX5_perform_244 4 rfl ?_
    refine r_callV_I [Value.int v1, Value.int v2, Value.int v3] cfX4_place (m_X4_place Z w v1 v2 v3) km_X5_71 ⟨rfl, rfl, (Nat.le_of_ble_eq_true rfl), (Nat.le_of_ble_eq_true rfl)⟩ rfl rfl 10 (qC_10 Z w) rfl rfl (Nat.le_of_ble_eq_true rfl) dX5_perform_246 (fun v5 => ?_)
    refine r_callV_Iw [Value.int v5] cfX4_darken (m_X4_darken Z w v5) km_X5_85 ⟨rfl, rfl, (Nat.le_of_ble_eq_true rfl), (Nat.le_of_ble_eq_true rfl)⟩ rfl rfl 10 (qC_10 Z w) rfl rfl (Nat.le_of_ble_eq_true rfl) dX5_perform_249 (fun z6 => ?_)
    exact r_iretw rfl dX5_perform_252
  refine r_split (fun h1 => ?_) (fun h1 => ?_)
  · refine r_tin (k := 100) (tgt := 253) dX5_perform_42 h1 (by decide) ?_
    refine r_lv [] rfl ?_
    exact wk_X5_perform_b253 Z w
  refine r_split (fun h2 => ?_) (fun h2 => ?_)
  · refine r_tin (k := 101) (tgt := 166) dX5_perform_42 h2 (by decide) ?_
    refine r_aload_n dX5_perform_166 0 rfl ?_
    refine r_get FX5 1 (Nat.le_of_ble_eq_true rfl) kf_X5_20 0 (qC_0 Z w) rfl dX5_perform_167 ?_
    refine r_aload_n dX5_perform_170 0 rfl ?_
    refine r_get FX5 1 (Nat.le_of_ble_eq_true rfl) kf_X5_20 0 (qC_0 Z w) rfl dX5_perform_171 ?_
    refine r_iload_n dX5_perform_174 2 rfl ?_
    refine r_iload_n dX5_perform_175 3 rfl ?_
    refine r_iload dX5_perform_176 4 rfl ?_
    refine r_callV_I [Value.int v1, Value.int v2, Value.int v3] cfX4_place (m_X4_place Z w v1 v2 v3) km_X5_71 ⟨rfl, rfl, (Nat.le_of_ble_eq_true rfl), (Nat.le_of_ble_eq_true rfl)⟩ rfl rfl 10 (qC_10 Z w) rfl rfl (Nat.le_of_ble_eq_true rfl) dX5_perform_178 (fun v7 => ?_)
    refine r_aload_n dX5_perform_181 0 rfl ?_
    refine r_get FX5 5 (Nat.le_of_ble_eq_true rfl) kf_X5_40 0 (qC_0 Z w) rfl dX5_perform_182 ?_
    refine r_iload_n dX5_perform_185 1 rfl ?_
    refine r_iconst (v := 4) dX5_perform_186 (by decide) ?_
    refine r_iadd dX5_perform_187 ?_
    refine r_callV_I [Value.int (x1 + (4 : Int32))] cfX1_item (m_X1_item Z w (x1 + (4 : Int32))) km_X5_192 ⟨rfl, rfl, (Nat.le_of_ble_eq_true rfl), (Nat.le_of_ble_eq_true rfl)⟩ rfl rfl 6 (qC_6 Z w) rfl rfl (Nat.le_of_ble_eq_true rfl) dX5_perform_188 (fun v8 => ?_)
    refine r_aload_n dX5_perform_191 0 rfl ?_
    refine r_get FX5 5 (Nat.le_of_ble_eq_true rfl) kf_X5_40 0 (qC_0 Z w) rfl dX5_perform_192 ?_
    refine r_iload_n dX5_perform_195 1 rfl ?_
    refine r_iconst (v := 5) dX5_perform_196 (by decide) ?_
    refine r_iadd dX5_perform_197 ?_
    refine r_callV_I [Value.int (x1 + (5 : Int32))] cfX1_item (m_X1_item Z w (x1 + (5 : Int32))) km_X5_192 ⟨rfl, rfl, (Nat.le_of_ble_eq_true rfl), (Nat.le_of_ble_eq_true rfl)⟩ rfl rfl 6 (qC_6 Z w) rfl rfl (Nat.le_of_ble_eq_true rfl) dX5_perform_198 (fun v9 => ?_)
    refine r_callV_Iw [Value.int v7, Value.int v8, Value.int v9] cfX4_layEcho (m_X4_layEcho Z w v7 v8 v9) km_X5_79 ⟨rfl, rfl, (Nat.le_of_ble_eq_true rfl), (Nat.le_of_ble_eq_true rfl)⟩ rfl rfl 10 (qC_10 Z w) rfl rfl (Nat.le_of_ble_eq_true rfl) dX5_perform_201 (fun z10 => ?_)
    exact r_iretw rfl dX5_perform_204
  refine r_split (fun h3 => ?_) (fun h3 => ?_)
  · refine r_tin (k := 102) (tgt := 253) dX5_perform_42 h3 (by decide) ?_
    refine r_lv [] rfl ?_
    exact wk_X5_perform_b253 Z w
  refine r_split (fun h4 => ?_) (fun h4 => ?_)
  · refine r_tin (k := 103) (tgt := 136) dX5_perform_42 h4 (by decide) ?_
    refine r_aload_n dX5_perform_136 0 rfl ?_
    refine r_get FX5 1 (Nat.le_of_ble_eq_true rfl) kf_X5_20 0 (qC_0 Z w) rfl dX5_perform_137 ?_
    refine r_iload_n dX5_perform_140 2 rfl ?_
    refine r_iload_n dX5_perform_141 3 rfl ?_
    refine r_callV_Iw [Value.int v1, Value.int v2] cfX4_layGrid (m_X4_layGrid Z w v1 v2) km_X5_57 ⟨rfl, rfl, (Nat.le_of_ble_eq_true rfl), (Nat.le_of_ble_eq_true rfl)⟩ rfl rfl 10 (qC_10 Z w) rfl rfl (Nat.le_of_ble_eq_true rfl) dX5_perform_142 (fun z11 => ?_)
    exact r_iretw rfl dX5_perform_145
  refine r_split (fun h5 => ?_) (fun h5 => ?_)
  · refine r_tin (k := 104) (tgt := 253) dX5_perform_42 h5 (by decide) ?_
    refine r_lv [] rfl ?_
    exact wk_X5_perform_b253 Z w
  refine r_split (fun h6 => ?_) (fun h6 => ?_)
  · refine r_tin (k := 105) (tgt := 253) dX5_perform_42 h6 (by decide) ?_
    refine r_lv [] rfl ?_
    exact wk_X5_perform_b253 Z w
  refine r_split (fun h7 => ?_) (fun h7 => ?_)
  · refine r_tin (k := 106) (tgt := 253) dX5_perform_42 h7 (by decide) ?_
    refine r_lv [] rfl ?_
    exact wk_X5_perform_b253 Z w
  refine r_split (fun h8 => ?_) (fun h8 => ?_)
  · refine r_tin (k := 107) (tgt := 253) dX5_perform_42 h8 (by decide) ?_
    refine r_lv [] rfl ?_
    exact wk_X5_perform_b253 Z w
  refine r_split (fun h9 => ?_) (fun h9 => ?_)
  · refine r_tin (k := 108) (tgt := 205) dX5_perform_42 h9 (by decide) ?_
    refine r_aload_n dX5_perform_205 0 rfl ?_
    refine r_get FX5 1 (Nat.le_of_ble_eq_true rfl) kf_X5_20 0 (qC_0 Z w) rfl dX5_perform_206 ?_
    refine r_aload_n dX5_perform_209 0 rfl ?_
    refine r_get FX5 1 (Nat.le_of_ble_eq_true rfl) kf_X5_20 0 (qC_0 Z w) rfl dX5_perform_210 ?_
    refine r_iload_n dX5_perform_213 2 rfl ?_
    refine r_iload_n dX5_perform_214 3 rfl ?_
    refine r_iload dX5_perform_215 4 rfl ?_
    refine r_callV_I [Value.int v1, Value.int v2, Value.int v3] cfX4_place (m_X4_place Z w v1 v2 v3) km_X5_71 ⟨rfl, rfl, (Nat.le_of_ble_eq_true rfl), (Nat.le_of_ble_eq_true rfl)⟩ rfl rfl 10 (qC_10 Z w) rfl rfl (Nat.le_of_ble_eq_true rfl) dX5_perform_217 (fun v12 => ?_)
    refine r_aload_n dX5_perform_220 0 rfl ?_
    refine r_get FX5 5 (Nat.le_of_ble_eq_true rfl) kf_X5_40 0 (qC_0 Z w) rfl dX5_perform_221 ?_
    refine r_iload_n dX5_perform_224 1 rfl ?_
    refine r_iconst (v := 4) dX5_perform_225 (by decide) ?_
    refine r_iadd dX5_perform_226 ?_
    refine r_callV_I [Value.int (x1 + (4 : Int32))] cfX1_item (m_X1_item Z w (x1 + (4 : Int32))) km_X5_192 ⟨rfl, rfl, (Nat.le_of_ble_eq_true rfl), (Nat.le_of_ble_eq_true rfl)⟩ rfl rfl 6 (qC_6 Z w) rfl rfl (Nat.le_of_ble_eq_true rfl) dX5_perform_227 (fun v13 => ?_)
    refine r_callV_Iw [Value.int v12, Value.int v13] cfX4_addLight (m_X4_addLight Z w v12 v13) km_X5_82 ⟨rfl, rfl, (Nat.le_of_ble_eq_true rfl), (Nat.le_of_ble_eq_true rfl)⟩ rfl rfl 10 (qC_10 Z w) rfl rfl (Nat.le_of_ble_eq_true rfl) dX5_perform_230 (fun z14 => ?_)
    exact r_iretw rfl dX5_perform_233
  refine r_split (fun h10 => ?_) (fun h10 => ?_)
  · refine r_tin (k := 109) (tgt := 253) dX5_perform_42 h10 (by decide) ?_
    refine r_lv [] rfl ?_
    exact wk_X5_perform_b253 Z w
  refine r_split (fun h11 => ?_) (fun h11 => ?_)
  · refine r_tin (k := 110) (tgt := 253) dX5_perform_42 h11 (by decide) ?_
    refine r_lv [] rfl ?_
    exact wk_X5_perform_b253 Z w
  refine r_split (fun h12 => ?_) (fun h12 => ?_)
  · refine r_tin (k := 111) (tgt := 253) dX5_perform_42 h12 (by decide) ?_
    refine r_lv [] rfl ?_
    exact wk_X5_perform_b253 Z w
  refine r_split (fun h13 => ?_) (fun h13 => ?_)
  · refine r_tin (k := 112) (tgt := 253) dX5_perform_42 h13 (by decide) ?_
    refine r_lv [] rfl ?_
    exact wk_X5_perform_b253 Z w
  refine r_split (fun h14 => ?_) (fun h14 => ?_)
  · refine r_tin (k := 113) (tgt := 253) dX5_perform_42 h14 (by decide) ?_
    refine r_lv [] rfl ?_
    exact wk_X5_perform_b253 Z w
  refine r_split (fun h15 => ?_) (fun h15 => ?_)
  · refine r_tin (k := 114) (tgt := 253) dX5_perform_42 h15 (by decide) ?_
    refine r_lv [] rfl ?_
    exact wk_X5_perform_b253 Z w
  refine r_split (fun h16 => ?_) (fun h16 => ?_)
  · refine r_tin (k := 115) (tgt := 156) dX5_perform_42 h16 (by decide) ?_
    refine r_aload_n dX5_perform_156 0 rfl ?_
    refine r_get FX5 1 (Nat.le_of_ble_eq_true rfl) kf_X5_20 0 (qC_0 Z w) rfl dX5_perform_157 ?_
    refine r_iload_n dX5_perform_160 2 rfl ?_
    refine r_iload_n dX5_perform_161 3 rfl ?_
    refine r_callV_Iw [Value.int v1, Value.int v2] cfX4_putSetting (m_X4_putSetting Z w v1 v2) km_X5_68 ⟨rfl, rfl, (Nat.le_of_ble_eq_true rfl), (Nat.le_of_ble_eq_true rfl)⟩ rfl rfl 10 (qC_10 Z w) rfl rfl (Nat.le_of_ble_eq_true rfl) dX5_perform_162 (fun z15 => ?_)
    exact r_iretw rfl dX5_perform_165
  refine r_split (fun h17 => ?_) (fun h17 => ?_)
  · refine r_tin (k := 116) (tgt := 253) dX5_perform_42 h17 (by decide) ?_
    refine r_lv [] rfl ?_
    exact wk_X5_perform_b253 Z w
  refine r_split (fun h18 => ?_) (fun h18 => ?_)
  · refine r_tin (k := 117) (tgt := 253) dX5_perform_42 h18 (by decide) ?_
    refine r_lv [] rfl ?_
    exact wk_X5_perform_b253 Z w
  refine r_split (fun h19 => ?_) (fun h19 => ?_)
  · refine r_tin (k := 118) (tgt := 146) dX5_perform_42 h19 (by decide) ?_
    refine r_aload_n dX5_perform_146 0 rfl ?_
    refine r_get FX5 1 (Nat.le_of_ble_eq_true rfl) kf_X5_20 0 (qC_0 Z w) rfl dX5_perform_147 ?_
    refine r_iload_n dX5_perform_150 2 rfl ?_
    refine r_iload_n dX5_perform_151 3 rfl ?_
    refine r_callV_Iw [Value.int v1, Value.int v2] cfX4_putWave (m_X4_putWave Z w v1 v2) km_X5_65 ⟨rfl, rfl, (Nat.le_of_ble_eq_true rfl), (Nat.le_of_ble_eq_true rfl)⟩ rfl rfl 10 (qC_10 Z w) rfl rfl (Nat.le_of_ble_eq_true rfl) dX5_perform_152 (fun z16 => ?_)
    exact r_iretw rfl dX5_perform_155
  refine r_tout (tgt := 253) dX5_perform_42 (by have g0 := lv_neT h0 (a := 99) (by decide); have g1 := lv_neT h1 (a := 100) (by decide); have g2 := lv_neT h2 (a := 101) (by decide); have g3 := lv_neT h3 (a := 102) (by decide); have g4 := lv_neT h4 (a := 103) (by decide); have g5 := lv_neT h5 (a := 104) (by decide); have g6 := lv_neT h6 (a := 105) (by decide); have g7 := lv_neT h7 (a := 106) (by decide); have g8 := lv_neT h8 (a := 107) (by decide); have g9 := lv_neT h9 (a := 108) (by decide); have g10 := lv_neT h10 (a := 109) (by decide); have g11 := lv_neT h11 (a := 110) (by decide); have g12 := lv_neT h12 (a := 111) (by decide); have g13 := lv_neT h13 (a := 112) (by decide); have g14 := lv_neT h14 (a := 113) (by decide); have g15 := lv_neT h15 (a := 114) (by decide); have g16 := lv_neT h16 (a := 115) (by decide); have g17 := lv_neT h17 (a := 116) (by decide); have g18 := lv_neT h18 (a := 117) (by decide); have g19 := lv_neT h19 (a := 118) (by decide); omega) (by decide) ?_
  refine r_lv [] rfl ?_
  exact wk_X5_perform_b253 Z w
theorem m_X5_perform (Z : CSp) (w : Wd) (x1 : Int32) : MetM (EC Z) yX5_perform cX5_perform 5 (some .int) { frames := 5, cells := 0, slots := 0, locals := 118 } oIw [Value.ref (aC Z 0), Value.int x1] w (f_X5_perform x1 w) := MetM_of (plainFor_of_name (by decide)) (Nat.le_of_ble_eq_true rfl) (wk_X5_perform Z w x1)
abbrev MX5_does : Mt := (cX5_does, RX5, 4, some .int, { frames := 6, cells := 0, slots := 0, locals := 142 })
def f_X5_does_b32  : Nat → Int32 → Int32 → Wd → Option (Int32 × Wd)
  | 0, _, _, _ => none
  | n + 1, x2, x3, w =>
  if (w.1 6 4) ≤ x3 then ((f_X5_keepBefore w).bind (fun w7 => some ((w7.1 6 4), w7))) else ((f_X5_perform x2 w).bind (fun z8 => if z8.1 = (-10002 : Int32) then ((f_X4_copyFrom 10 14 z8.2).bind (fun w12 => some (((-1000 : Int32) - x3), w12))) else ((f_X1_item x2 z8.2).bind (fun v9 => (f_X1_numbersOf v9).bind (fun v10 => jlet (x2 + ((1 : Int32) + v10)) (fun y11 => f_X5_does_b32 n y11 (x3 + 1) z8.2))))))
set_option maxRecDepth 100000 in
set_option maxHeartbeats 4000000 in
theorem wk_X5_does_b32 (Z : CSp)   : ∀ (n : Nat) (x2 : Int32) (x3 : Int32) (w : Wd), Wm (EC Z) MX5_does oIw w 32 [(0, Value.ref (aC Z 0)), (2, Value.int x2), (3, Value.int x3)] [] (f_X5_does_b32  n x2 x3 w) := by
  intro n
  induction n with
  | zero =>
    intro x2 x3 w
    exact r_none
  | succ n ih =>
    intro x2 x3 w
    rw [f_X5_does_b32]
    refine r_iload_n dX5_does_32 2 rfl ?_
    refine r_aload_n dX5_does_33 0 rfl ?_
    refine r_get FX5 5 (Nat.le_of_ble_eq_true rfl) kf_X5_40 0 (qC_0 Z w) rfl dX5_does_34 ?_
    refine r_get FX1 4 (Nat.le_of_ble_eq_true rfl) kf_X5_186 6 (qC_6 Z w) rfl dX5_does_37 ?_
    refine r_icmp_ge (tgt := 93) dX5_does_40 (by decide) (fun _ => ?_) (fun _ => ?_)
    · refine r_aload_n dX5_does_93 0 rfl ?_
      refine r_callV_Vw [] cfX5_keepBefore (m_X5_keepBefore Z w) km_X5_198 ⟨rfl, rfl, (Nat.le_of_ble_eq_true rfl), (Nat.le_of_ble_eq_true rfl)⟩ rfl rfl 0 (qC_0 Z w) rfl rfl (Nat.le_of_ble_eq_true rfl) dX5_does_94 (fun w7 => ?_)
      refine r_aload_n dX5_does_97 0 rfl ?_
      refine r_get FX5 5 (Nat.le_of_ble_eq_true rfl) kf_X5_40 0 (qC_0 Z w7) rfl dX5_does_98 ?_
      refine r_get FX1 4 (Nat.le_of_ble_eq_true rfl) kf_X5_186 6 (qC_6 Z w7) rfl dX5_does_101 ?_
      exact r_iretw rfl dX5_does_104
    · refine r_aload_n dX5_does_43 0 rfl ?_
      refine r_iload_n dX5_does_44 1 rfl ?_
      refine r_callV_Iw [Value.int x2] cfX5_perform (m_X5_perform Z w x2) km_X5_189 ⟨rfl, rfl, (Nat.le_of_ble_eq_true rfl), (Nat.le_of_ble_eq_true rfl)⟩ rfl rfl 0 (qC_0 Z w) rfl rfl (Nat.le_of_ble_eq_true rfl) dX5_does_45 (fun z8 => ?_)
      refine r_sipush (v := -10002) dX5_does_48 (by decide) ?_
      refine r_icmp_ne (tgt := 71) dX5_does_51 (by decide) (fun _ => ?_) (fun _ => ?_)
      · refine r_iload_n dX5_does_71 1 rfl ?_
        refine r_iconst (v := 1) dX5_does_72 (by decide) ?_
        refine r_aload_n dX5_does_73 0 rfl ?_
        refine r_get FX5 5 (Nat.le_of_ble_eq_true rfl) kf_X5_40 0 (qC_0 Z z8.2) rfl dX5_does_74 ?_
        refine r_iload_n dX5_does_77 1 rfl ?_
        refine r_callV_I [Value.int x2] cfX1_item (m_X1_item Z z8.2 x2) km_X5_192 ⟨rfl, rfl, (Nat.le_of_ble_eq_true rfl), (Nat.le_of_ble_eq_true rfl)⟩ rfl rfl 6 (qC_6 Z z8.2) rfl rfl (Nat.le_of_ble_eq_true rfl) dX5_does_78 (fun v9 => ?_)
        refine r_callS_I [Value.int v9] cfX1_numbersOf (m_X1_numbersOf Z z8.2 v9) km_X5_195 ⟨rfl, rfl, (Nat.le_of_ble_eq_true rfl), (Nat.le_of_ble_eq_true rfl)⟩ rfl rfl (Nat.le_of_ble_eq_true rfl) dX5_does_81 (fun v10 => ?_)
        refine r_iadd dX5_does_84 ?_
        refine r_iadd dX5_does_85 ?_
        refine r_leti (fun y11 => ?_)
        refine r_istore_n (lv' := [(0, Value.ref (aC Z 0)), (2, Value.int y11), (3, Value.int x3)]) dX5_does_86 (Nat.le_of_ble_eq_true rfl) [1, 0, 2] rfl ?_
        refine r_iinc (lv' := [(0, Value.ref (aC Z 0)), (2, Value.int y11), (3, Value.int (x3 + 1))]) dX5_does_87 2 rfl (by rfl) (Nat.le_of_ble_eq_true rfl) [1, 2, 0] rfl ?_
        refine r_goto (tgt := 32) dX5_does_90 (by decide) ?_
        exact ih y11 (x3 + 1) z8.2
      · refine r_aload_n dX5_does_54 0 rfl ?_
        refine r_get FX5 1 (Nat.le_of_ble_eq_true rfl) kf_X5_20 0 (qC_0 Z z8.2) rfl dX5_does_55 ?_
        refine r_aload_n dX5_does_58 0 rfl ?_
        refine r_get FX5 2 (Nat.le_of_ble_eq_true rfl) kf_X5_26 0 (qC_0 Z z8.2) rfl dX5_does_59 ?_
        refine r_callV_Vw [Value.ref (aC Z 14)] cfX4_copyFrom (m_X4_copyFrom_10_14 Z z8.2) km_X5_53 ⟨rfl, rfl, (Nat.le_of_ble_eq_true rfl), (Nat.le_of_ble_eq_true rfl)⟩ rfl rfl 10 (qC_10 Z z8.2) rfl rfl (Nat.le_of_ble_eq_true rfl) dX5_does_62 (fun w12 => ?_)
        refine r_sipush (v := -1000) dX5_does_65 (by decide) ?_
        refine r_iload_n dX5_does_68 2 rfl ?_
        refine r_isub dX5_does_69 ?_
        exact r_iretw rfl dX5_does_70
def f_X5_does (w : Wd) : Option (Int32 × Wd) :=
  (f_X1_readAll w).bind (fun z1 => if z1.1 < 0 then ((f_X4_copyFrom 14 10 z1.2).bind (fun w2 => f_X5_does_b32 FUEL (0 : Int32) (0 : Int32) w2)) else (some (((-10 : Int32) - z1.1), z1.2)))
set_option maxRecDepth 100000 in
set_option maxHeartbeats 4000000 in
theorem wk_X5_does (Z : CSp) (w : Wd)   : Wm (EC Z) MX5_does oIw w 0 [(0, Value.ref (aC Z 0))] [] (f_X5_does w) := by
  unfold f_X5_does
  refine r_aload_n dX5_does_0 0 rfl ?_
  refine r_get FX5 5 (Nat.le_of_ble_eq_true rfl) kf_X5_40 0 (qC_0 Z w) rfl dX5_does_1 ?_
  refine r_callV_Iw [] cfX1_readAll (m_X1_readAll Z w) km_X5_182 ⟨rfl, rfl, (Nat.le_of_ble_eq_true rfl), (Nat.le_of_ble_eq_true rfl)⟩ rfl rfl 6 (qC_6 Z w) rfl rfl (Nat.le_of_ble_eq_true rfl) dX5_does_4 (fun z1 => ?_)
  refine r_istore_n (lv' := [(0, Value.ref (aC Z 0)), (1, Value.int z1.1)]) dX5_does_7 (Nat.le_of_ble_eq_true rfl) [1, 0] rfl ?_
  refine r_iload_n dX5_does_8 1 rfl ?_
  refine r_if_lt (tgt := 17) dX5_does_9 (by decide) (fun _ => ?_) (fun _ => ?_)
  · refine r_aload_n dX5_does_17 0 rfl ?_
    refine r_get FX5 2 (Nat.le_of_ble_eq_true rfl) kf_X5_26 0 (qC_0 Z z1.2) rfl dX5_does_18 ?_
    refine r_aload_n dX5_does_21 0 rfl ?_
    refine r_get FX5 1 (Nat.le_of_ble_eq_true rfl) kf_X5_20 0 (qC_0 Z z1.2) rfl dX5_does_22 ?_
    refine r_callV_Vw [Value.ref (aC Z 10)] cfX4_copyFrom (m_X4_copyFrom_14_10 Z z1.2) km_X5_53 ⟨rfl, rfl, (Nat.le_of_ble_eq_true rfl), (Nat.le_of_ble_eq_true rfl)⟩ rfl rfl 14 (qC_14 Z z1.2) rfl rfl (Nat.le_of_ble_eq_true rfl) dX5_does_25 (fun w2 => ?_)
    refine r_iconst (v := 0) dX5_does_28 (by decide) ?_
    refine r_istore_n (lv' := [(0, Value.ref (aC Z 0)), (1, Value.int z1.1), (2, Value.int (0 : Int32))]) dX5_does_29 (Nat.le_of_ble_eq_true rfl) [1, 2, 0] rfl ?_
    refine r_iconst (v := 0) dX5_does_30 (by decide) ?_
    refine r_istore_n (lv' := [(0, Value.ref (aC Z 0)), (1, Value.int z1.1), (2, Value.int (0 : Int32)), (3, Value.int (0 : Int32))]) dX5_does_31 (Nat.le_of_ble_eq_true rfl) [1, 2, 3, 0] rfl ?_
    refine r_lv [0, 2, 3] rfl ?_
    exact wk_X5_does_b32 Z FUEL (0 : Int32) (0 : Int32) w2
  · refine r_bipush (v := -10) dX5_does_12 (by decide) ?_
    refine r_iload_n dX5_does_14 1 rfl ?_
    refine r_isub dX5_does_15 ?_
    exact r_iretw rfl dX5_does_16
theorem m_X5_does (Z : CSp) (w : Wd)  : MetM (EC Z) yX5_does cX5_does 4 (some .int) { frames := 6, cells := 0, slots := 0, locals := 142 } oIw [Value.ref (aC Z 0)] w (f_X5_does w) := MetM_of (plainFor_of_name (by decide)) (Nat.le_of_ble_eq_true rfl) (wk_X5_does Z w )
abbrev MX5_echo : Mt := (cX5_echo, RX5, 6, some .int, { frames := 5, cells := 0, slots := 0, locals := 118 })
def f_X5_echo (x1 : Int32) (x2 : Int32) (x3 : Int32) (x4 : Int32) (x5 : Int32) (w : Wd) : Option (Int32 × Wd) :=
  (f_X4_copyFrom 14 10 w).bind (fun w1 => (f_X4_place x1 x2 x3 w1).bind (fun v2 => (f_X4_layEcho v2 x4 x5 w1).bind (fun z3 => (f_X5_settle z3.1 z3.2).bind (fun z4 => some (z4.1, z4.2)))))
set_option maxRecDepth 100000 in
set_option maxHeartbeats 4000000 in
theorem wk_X5_echo (Z : CSp) (w : Wd) (x1 : Int32) (x2 : Int32) (x3 : Int32) (x4 : Int32) (x5 : Int32)  : Wm (EC Z) MX5_echo oIw w 0 [(0, Value.ref (aC Z 0)), (1, Value.int x1), (2, Value.int x2), (3, Value.int x3), (4, Value.int x4), (5, Value.int x5)] [] (f_X5_echo x1 x2 x3 x4 x5 w) := by
  unfold f_X5_echo
  refine r_aload_n dX5_echo_0 0 rfl ?_
  refine r_get FX5 2 (Nat.le_of_ble_eq_true rfl) kf_X5_26 0 (qC_0 Z w) rfl dX5_echo_1 ?_
  refine r_aload_n dX5_echo_4 0 rfl ?_
  refine r_get FX5 1 (Nat.le_of_ble_eq_true rfl) kf_X5_20 0 (qC_0 Z w) rfl dX5_echo_5 ?_
  refine r_callV_Vw [Value.ref (aC Z 10)] cfX4_copyFrom (m_X4_copyFrom_14_10 Z w) km_X5_53 ⟨rfl, rfl, (Nat.le_of_ble_eq_true rfl), (Nat.le_of_ble_eq_true rfl)⟩ rfl rfl 14 (qC_14 Z w) rfl rfl (Nat.le_of_ble_eq_true rfl) dX5_echo_8 (fun w1 => ?_)
  refine r_aload_n dX5_echo_11 0 rfl ?_
  refine r_aload_n dX5_echo_12 0 rfl ?_
  refine r_get FX5 1 (Nat.le_of_ble_eq_true rfl) kf_X5_20 0 (qC_0 Z w1) rfl dX5_echo_13 ?_
  refine r_aload_n dX5_echo_16 0 rfl ?_
  refine r_get FX5 1 (Nat.le_of_ble_eq_true rfl) kf_X5_20 0 (qC_0 Z w1) rfl dX5_echo_17 ?_
  refine r_iload_n dX5_echo_20 1 rfl ?_
  refine r_iload_n dX5_echo_21 2 rfl ?_
  refine r_iload_n dX5_echo_22 3 rfl ?_
  refine r_callV_I [Value.int x1, Value.int x2, Value.int x3] cfX4_place (m_X4_place Z w1 x1 x2 x3) km_X5_71 ⟨rfl, rfl, (Nat.le_of_ble_eq_true rfl), (Nat.le_of_ble_eq_true rfl)⟩ rfl rfl 10 (qC_10 Z w1) rfl rfl (Nat.le_of_ble_eq_true rfl) dX5_echo_23 (fun v2 => ?_)
  refine r_iload dX5_echo_26 4 rfl ?_
  refine r_iload dX5_echo_28 5 rfl ?_
  refine r_callV_Iw [Value.int v2, Value.int x4, Value.int x5] cfX4_layEcho (m_X4_layEcho Z w1 v2 x4 x5) km_X5_79 ⟨rfl, rfl, (Nat.le_of_ble_eq_true rfl), (Nat.le_of_ble_eq_true rfl)⟩ rfl rfl 10 (qC_10 Z w1) rfl rfl (Nat.le_of_ble_eq_true rfl) dX5_echo_30 (fun z3 => ?_)
  refine r_callV_Iw [Value.int z3.1] cfX5_settle (m_X5_settle Z z3.2 z3.1) km_X5_61 ⟨rfl, rfl, (Nat.le_of_ble_eq_true rfl), (Nat.le_of_ble_eq_true rfl)⟩ rfl rfl 0 (qC_0 Z z3.2) rfl rfl (Nat.le_of_ble_eq_true rfl) dX5_echo_33 (fun z4 => ?_)
  exact r_iretw rfl dX5_echo_36
theorem m_X5_echo (Z : CSp) (w : Wd) (x1 : Int32) (x2 : Int32) (x3 : Int32) (x4 : Int32) (x5 : Int32) : MetM (EC Z) yX5_echo cX5_echo 6 (some .int) { frames := 5, cells := 0, slots := 0, locals := 118 } oIw [Value.ref (aC Z 0), Value.int x1, Value.int x2, Value.int x3, Value.int x4, Value.int x5] w (f_X5_echo x1 x2 x3 x4 x5 w) := MetM_of (plainFor_of_name (by decide)) (Nat.le_of_ble_eq_true rfl) (wk_X5_echo Z w x1 x2 x3 x4 x5)
abbrev MX5_glow : Mt := (cX5_glow, RX5, 5, some .int, { frames := 5, cells := 0, slots := 0, locals := 111 })
def f_X5_glow_b39 (s0 : Int32) (w : Wd) : Option (Int32 × Wd) :=
  some (s0, w)
set_option maxRecDepth 100000 in
set_option maxHeartbeats 4000000 in
theorem wk_X5_glow_b39 (Z : CSp) (w : Wd) (s0 : Int32)  : Wm (EC Z) MX5_glow oIw w 39 [] [Value.int s0] (f_X5_glow_b39 s0 w) := by
  unfold f_X5_glow_b39
  exact r_iretw rfl dX5_glow_39
def f_X5_glow (x1 : Int32) (x2 : Int32) (x3 : Int32) (w : Wd) : Option (Int32 × Wd) :=
  (f_X4_place x1 x2 x3 w).bind (fun v1 => if 0 ≤ v1 then ((f_X4_brightness v1 w).bind (fun v2 => (f_X0_ofFloat v2).bind (fun v3 => f_X5_glow_b39 v3 w))) else ((f_X5_refuse (-10002 : Int32) w).bind (fun z4 => f_X5_glow_b39 z4.1 z4.2)))
set_option maxRecDepth 100000 in
set_option maxHeartbeats 4000000 in
theorem wk_X5_glow (Z : CSp) (w : Wd) (x1 : Int32) (x2 : Int32) (x3 : Int32)  : Wm (EC Z) MX5_glow oIw w 0 [(0, Value.ref (aC Z 0)), (1, Value.int x1), (2, Value.int x2), (3, Value.int x3)] [] (f_X5_glow x1 x2 x3 w) := by
  unfold f_X5_glow
  refine r_aload_n dX5_glow_0 0 rfl ?_
  refine r_get FX5 1 (Nat.le_of_ble_eq_true rfl) kf_X5_20 0 (qC_0 Z w) rfl dX5_glow_1 ?_
  refine r_iload_n dX5_glow_4 1 rfl ?_
  refine r_iload_n dX5_glow_5 2 rfl ?_
  refine r_iload_n dX5_glow_6 3 rfl ?_
  refine r_callV_I [Value.int x1, Value.int x2, Value.int x3] cfX4_place (m_X4_place Z w x1 x2 x3) km_X5_71 ⟨rfl, rfl, (Nat.le_of_ble_eq_true rfl), (Nat.le_of_ble_eq_true rfl)⟩ rfl rfl 10 (qC_10 Z w) rfl rfl (Nat.le_of_ble_eq_true rfl) dX5_glow_7 (fun v1 => ?_)
  refine r_istore (lv' := [(0, Value.ref (aC Z 0)), (1, Value.int x1), (2, Value.int x2), (3, Value.int x3), (4, Value.int v1)]) dX5_glow_10 (Nat.le_of_ble_eq_true rfl) [1, 2, 3, 4, 0] rfl ?_
  refine r_iload dX5_glow_12 4 rfl ?_
  refine r_if_ge (tgt := 27) dX5_glow_14 (by decide) (fun _ => ?_) (fun _ => ?_)
  · refine r_aload_n dX5_glow_27 0 rfl ?_
    refine r_get FX5 1 (Nat.le_of_ble_eq_true rfl) kf_X5_20 0 (qC_0 Z w) rfl dX5_glow_28 ?_
    refine r_iload dX5_glow_31 4 rfl ?_
    refine r_callV_F [Value.int v1] cfX4_brightness (m_X4_brightness Z w v1) km_X5_147 ⟨rfl, rfl, (Nat.le_of_ble_eq_true rfl), (Nat.le_of_ble_eq_true rfl)⟩ rfl rfl 10 (qC_10 Z w) rfl rfl (Nat.le_of_ble_eq_true rfl) dX5_glow_33 (fun v2 => ?_)
    refine r_callS_I [Value.float v2] cfX0_ofFloat (m_X0_ofFloat Z w v2) km_X5_123 ⟨rfl, rfl, (Nat.le_of_ble_eq_true rfl), (Nat.le_of_ble_eq_true rfl)⟩ rfl rfl (Nat.le_of_ble_eq_true rfl) dX5_glow_36 (fun v3 => ?_)
    refine r_lv [] rfl ?_
    exact wk_X5_glow_b39 Z w v3
  · refine r_aload_n dX5_glow_17 0 rfl ?_
    refine r_sipush (v := -10002) dX5_glow_18 (by decide) ?_
    refine r_callV_Iw [Value.int (-10002 : Int32)] cfX5_refuse (m_X5_refuse Z w (-10002 : Int32)) km_X5_92 ⟨rfl, rfl, (Nat.le_of_ble_eq_true rfl), (Nat.le_of_ble_eq_true rfl)⟩ rfl rfl 0 (qC_0 Z w) rfl rfl (Nat.le_of_ble_eq_true rfl) dX5_glow_21 (fun z4 => ?_)
    refine r_goto (tgt := 39) dX5_glow_24 (by decide) ?_
    refine r_lv [] rfl ?_
    exact wk_X5_glow_b39 Z z4.2 z4.1
theorem m_X5_glow (Z : CSp) (w : Wd) (x1 : Int32) (x2 : Int32) (x3 : Int32) : MetM (EC Z) yX5_glow cX5_glow 5 (some .int) { frames := 5, cells := 0, slots := 0, locals := 111 } oIw [Value.ref (aC Z 0), Value.int x1, Value.int x2, Value.int x3] w (f_X5_glow x1 x2 x3 w) := MetM_of (plainFor_of_name (by decide)) (Nat.le_of_ble_eq_true rfl) (wk_X5_glow Z w x1 x2 x3)
abbrev MX5_grid : Mt := (cX5_grid, RX5, 3, some .int, { frames := 4, cells := 0, slots := 0, locals := 104 })
def f_X5_grid (x1 : Int32) (x2 : Int32) (w : Wd) : Option (Int32 × Wd) :=
  (f_X4_copyFrom 14 10 w).bind (fun w1 => (f_X4_layGrid x1 x2 w1).bind (fun z2 => (f_X5_settle z2.1 z2.2).bind (fun z3 => some (z3.1, z3.2))))
set_option maxRecDepth 100000 in
set_option maxHeartbeats 4000000 in
theorem wk_X5_grid (Z : CSp) (w : Wd) (x1 : Int32) (x2 : Int32)  : Wm (EC Z) MX5_grid oIw w 0 [(0, Value.ref (aC Z 0)), (1, Value.int x1), (2, Value.int x2)] [] (f_X5_grid x1 x2 w) := by
  unfold f_X5_grid
  refine r_aload_n dX5_grid_0 0 rfl ?_
  refine r_get FX5 2 (Nat.le_of_ble_eq_true rfl) kf_X5_26 0 (qC_0 Z w) rfl dX5_grid_1 ?_
  refine r_aload_n dX5_grid_4 0 rfl ?_
  refine r_get FX5 1 (Nat.le_of_ble_eq_true rfl) kf_X5_20 0 (qC_0 Z w) rfl dX5_grid_5 ?_
  refine r_callV_Vw [Value.ref (aC Z 10)] cfX4_copyFrom (m_X4_copyFrom_14_10 Z w) km_X5_53 ⟨rfl, rfl, (Nat.le_of_ble_eq_true rfl), (Nat.le_of_ble_eq_true rfl)⟩ rfl rfl 14 (qC_14 Z w) rfl rfl (Nat.le_of_ble_eq_true rfl) dX5_grid_8 (fun w1 => ?_)
  refine r_aload_n dX5_grid_11 0 rfl ?_
  refine r_aload_n dX5_grid_12 0 rfl ?_
  refine r_get FX5 1 (Nat.le_of_ble_eq_true rfl) kf_X5_20 0 (qC_0 Z w1) rfl dX5_grid_13 ?_
  refine r_iload_n dX5_grid_16 1 rfl ?_
  refine r_iload_n dX5_grid_17 2 rfl ?_
  refine r_callV_Iw [Value.int x1, Value.int x2] cfX4_layGrid (m_X4_layGrid Z w1 x1 x2) km_X5_57 ⟨rfl, rfl, (Nat.le_of_ble_eq_true rfl), (Nat.le_of_ble_eq_true rfl)⟩ rfl rfl 10 (qC_10 Z w1) rfl rfl (Nat.le_of_ble_eq_true rfl) dX5_grid_18 (fun z2 => ?_)
  refine r_callV_Iw [Value.int z2.1] cfX5_settle (m_X5_settle Z z2.2 z2.1) km_X5_61 ⟨rfl, rfl, (Nat.le_of_ble_eq_true rfl), (Nat.le_of_ble_eq_true rfl)⟩ rfl rfl 0 (qC_0 Z z2.2) rfl rfl (Nat.le_of_ble_eq_true rfl) dX5_grid_21 (fun z3 => ?_)
  exact r_iretw rfl dX5_grid_24
theorem m_X5_grid (Z : CSp) (w : Wd) (x1 : Int32) (x2 : Int32) : MetM (EC Z) yX5_grid cX5_grid 3 (some .int) { frames := 4, cells := 0, slots := 0, locals := 104 } oIw [Value.ref (aC Z 0), Value.int x1, Value.int x2] w (f_X5_grid x1 x2 w) := MetM_of (plainFor_of_name (by decide)) (Nat.le_of_ble_eq_true rfl) (wk_X5_grid Z w x1 x2)
abbrev MX5_mark : Mt := (cX5_mark, RX5, 5, some .int, { frames := 5, cells := 0, slots := 0, locals := 121 })
def f_X5_mark_b36 (s0 : Int32) (w : Wd) : Option (Int32 × Wd) :=
  some (s0, w)
set_option maxRecDepth 100000 in
set_option maxHeartbeats 4000000 in
theorem wk_X5_mark_b36 (Z : CSp) (w : Wd) (s0 : Int32)  : Wm (EC Z) MX5_mark oIw w 36 [] [Value.int s0] (f_X5_mark_b36 s0 w) := by
  unfold f_X5_mark_b36
  exact r_iretw rfl dX5_mark_36
def f_X5_mark (x1 : Int32) (x2 : Int32) (x3 : Int32) (w : Wd) : Option (Int32 × Wd) :=
  (f_X4_place x1 x2 x3 w).bind (fun v1 => if 0 ≤ v1 then ((f_X2_markOf v1 w).bind (fun z2 => f_X5_mark_b36 z2.1 z2.2)) else ((f_X5_refuse (-10002 : Int32) w).bind (fun z3 => f_X5_mark_b36 z3.1 z3.2)))
set_option maxRecDepth 100000 in
set_option maxHeartbeats 4000000 in
theorem wk_X5_mark (Z : CSp) (w : Wd) (x1 : Int32) (x2 : Int32) (x3 : Int32)  : Wm (EC Z) MX5_mark oIw w 0 [(0, Value.ref (aC Z 0)), (1, Value.int x1), (2, Value.int x2), (3, Value.int x3)] [] (f_X5_mark x1 x2 x3 w) := by
  unfold f_X5_mark
  refine r_aload_n dX5_mark_0 0 rfl ?_
  refine r_get FX5 1 (Nat.le_of_ble_eq_true rfl) kf_X5_20 0 (qC_0 Z w) rfl dX5_mark_1 ?_
  refine r_iload_n dX5_mark_4 1 rfl ?_
  refine r_iload_n dX5_mark_5 2 rfl ?_
  refine r_iload_n dX5_mark_6 3 rfl ?_
  refine r_callV_I [Value.int x1, Value.int x2, Value.int x3] cfX4_place (m_X4_place Z w x1 x2 x3) km_X5_71 ⟨rfl, rfl, (Nat.le_of_ble_eq_true rfl), (Nat.le_of_ble_eq_true rfl)⟩ rfl rfl 10 (qC_10 Z w) rfl rfl (Nat.le_of_ble_eq_true rfl) dX5_mark_7 (fun v1 => ?_)
  refine r_istore (lv' := [(0, Value.ref (aC Z 0)), (1, Value.int x1), (2, Value.int x2), (3, Value.int x3), (4, Value.int v1)]) dX5_mark_10 (Nat.le_of_ble_eq_true rfl) [1, 2, 3, 4, 0] rfl ?_
  refine r_iload dX5_mark_12 4 rfl ?_
  refine r_if_ge (tgt := 27) dX5_mark_14 (by decide) (fun _ => ?_) (fun _ => ?_)
  · refine r_aload_n dX5_mark_27 0 rfl ?_
    refine r_get FX5 0 (Nat.le_of_ble_eq_true rfl) kf_X5_12 0 (qC_0 Z w) rfl dX5_mark_28 ?_
    refine r_iload dX5_mark_31 4 rfl ?_
    refine r_callV_Iw [Value.int v1] cfX2_markOf (m_X2_markOf Z w v1) km_X5_129 ⟨rfl, rfl, (Nat.le_of_ble_eq_true rfl), (Nat.le_of_ble_eq_true rfl)⟩ rfl rfl 1 (qC_1 Z w) rfl rfl (Nat.le_of_ble_eq_true rfl) dX5_mark_33 (fun z2 => ?_)
    refine r_lv [] rfl ?_
    exact wk_X5_mark_b36 Z z2.2 z2.1
  · refine r_aload_n dX5_mark_17 0 rfl ?_
    refine r_sipush (v := -10002) dX5_mark_18 (by decide) ?_
    refine r_callV_Iw [Value.int (-10002 : Int32)] cfX5_refuse (m_X5_refuse Z w (-10002 : Int32)) km_X5_92 ⟨rfl, rfl, (Nat.le_of_ble_eq_true rfl), (Nat.le_of_ble_eq_true rfl)⟩ rfl rfl 0 (qC_0 Z w) rfl rfl (Nat.le_of_ble_eq_true rfl) dX5_mark_21 (fun z3 => ?_)
    refine r_goto (tgt := 36) dX5_mark_24 (by decide) ?_
    refine r_lv [] rfl ?_
    exact wk_X5_mark_b36 Z z3.2 z3.1
theorem m_X5_mark (Z : CSp) (w : Wd) (x1 : Int32) (x2 : Int32) (x3 : Int32) : MetM (EC Z) yX5_mark cX5_mark 5 (some .int) { frames := 5, cells := 0, slots := 0, locals := 121 } oIw [Value.ref (aC Z 0), Value.int x1, Value.int x2, Value.int x3] w (f_X5_mark x1 x2 x3 w) := MetM_of (plainFor_of_name (by decide)) (Nat.le_of_ble_eq_true rfl) (wk_X5_mark Z w x1 x2 x3)
abbrev MX5_marks : Mt := (cX5_marks, RX5, 6, some .int, { frames := 5, cells := 0, slots := 0, locals := 121 })
def f_X5_marks_b87 (x1 : Int32) (x2 : Int32) (x4 : Int32) (x5 : Int32) (s0 : Int32) (s1 : Int32) (k46 : Int32 → Int32 → Wd → Option (Int32 × Wd)) (w : Wd) : Option (Int32 × Wd) :=
  jlet (s1 + s0) (fun y2 => k46 y2 (x5 + 1) w)
set_option maxRecDepth 100000 in
set_option maxHeartbeats 4000000 in
theorem wk_X5_marks_b87 (Z : CSp) (w : Wd) (x1 : Int32) (x2 : Int32) (x4 : Int32) (x5 : Int32) (s0 : Int32) (s1 : Int32) (k46 : Int32 → Int32 → Wd → Option (Int32 × Wd)) (hk46 : ∀ (x3 : Int32) (x5 : Int32) (w : Wd), Wm (EC Z) MX5_marks oIw w 46 [(0, Value.ref (aC Z 0)), (1, Value.int x1), (2, Value.int x2), (3, Value.int x3), (4, Value.int x4), (5, Value.int x5)] [] (k46 x3 x5 w)) : Wm (EC Z) MX5_marks oIw w 87 [(0, Value.ref (aC Z 0)), (1, Value.int x1), (2, Value.int x2), (4, Value.int x4), (5, Value.int x5)] [Value.int s0, Value.int s1] (f_X5_marks_b87 x1 x2 x4 x5 s0 s1 k46 w) := by
  unfold f_X5_marks_b87
  refine r_iadd dX5_marks_87 ?_
  refine r_leti (fun y2 => ?_)
  refine r_istore_n (lv' := [(0, Value.ref (aC Z 0)), (1, Value.int x1), (2, Value.int x2), (3, Value.int y2), (4, Value.int x4), (5, Value.int x5)]) dX5_marks_88 (Nat.le_of_ble_eq_true rfl) [1, 2, 3, 0, 4, 5] rfl ?_
  refine r_iinc (lv' := [(0, Value.ref (aC Z 0)), (1, Value.int x1), (2, Value.int x2), (3, Value.int y2), (4, Value.int x4), (5, Value.int (x5 + 1))]) dX5_marks_89 5 rfl (by rfl) (Nat.le_of_ble_eq_true rfl) [1, 2, 3, 4, 5, 0] rfl ?_
  refine r_goto (tgt := 46) dX5_marks_92 (by decide) ?_
  exact hk46 y2 (x5 + 1) w
def f_X5_marks_b46 (x1 : Int32) (x2 : Int32) (x4 : Int32) (k31 : Int32 → Int32 → Wd → Option (Int32 × Wd)) : Nat → Int32 → Int32 → Wd → Option (Int32 × Wd)
  | 0, _, _, _ => none
  | n + 1, x3, x5, w =>
  if (w.1 10 0) ≤ x5 then (k31 x3 (x4 + 1) w) else ((f_X4_place x1 x5 x4 w).bind (fun v3 => (f_X2_markOf v3 w).bind (fun z4 => if z4.1 = x2 then (f_X5_marks_b87 x1 x2 x4 x5 (1 : Int32) x3 (f_X5_marks_b46 x1 x2 x4 k31 n) z4.2) else (f_X5_marks_b87 x1 x2 x4 x5 (0 : Int32) x3 (f_X5_marks_b46 x1 x2 x4 k31 n) z4.2))))
set_option maxRecDepth 100000 in
set_option maxHeartbeats 4000000 in
theorem wk_X5_marks_b46 (Z : CSp) (x1 : Int32) (x2 : Int32) (x4 : Int32) (k31 : Int32 → Int32 → Wd → Option (Int32 × Wd)) (hk31 : ∀ (x3 : Int32) (x4 : Int32) (w : Wd), Wm (EC Z) MX5_marks oIw w 31 [(0, Value.ref (aC Z 0)), (1, Value.int x1), (2, Value.int x2), (3, Value.int x3), (4, Value.int x4)] [] (k31 x3 x4 w)) : ∀ (n : Nat) (x3 : Int32) (x5 : Int32) (w : Wd), Wm (EC Z) MX5_marks oIw w 46 [(0, Value.ref (aC Z 0)), (1, Value.int x1), (2, Value.int x2), (3, Value.int x3), (4, Value.int x4), (5, Value.int x5)] [] (f_X5_marks_b46 x1 x2 x4 k31 n x3 x5 w) := by
  intro n
  induction n with
  | zero =>
    intro x3 x5 w
    exact r_none
  | succ n ih =>
    intro x3 x5 w
    rw [f_X5_marks_b46]
    refine r_iload dX5_marks_46 5 rfl ?_
    refine r_aload_n dX5_marks_48 0 rfl ?_
    refine r_get FX5 1 (Nat.le_of_ble_eq_true rfl) kf_X5_20 0 (qC_0 Z w) rfl dX5_marks_49 ?_
    refine r_get FX4 0 (Nat.le_of_ble_eq_true rfl) kf_X5_157 10 (qC_10 Z w) rfl dX5_marks_52 ?_
    refine r_icmp_ge (tgt := 95) dX5_marks_55 (by decide) (fun _ => ?_) (fun _ => ?_)
    · refine r_iinc (lv' := [(0, Value.ref (aC Z 0)), (1, Value.int x1), (2, Value.int x2), (3, Value.int x3), (4, Value.int (x4 + 1)), (5, Value.int x5)]) dX5_marks_95 4 rfl (by rfl) (Nat.le_of_ble_eq_true rfl) [1, 2, 3, 4, 0, 5] rfl ?_
      refine r_goto (tgt := 31) dX5_marks_98 (by decide) ?_
      refine r_lv [0, 1, 2, 3, 4] rfl ?_
      exact hk31 x3 (x4 + 1) w
    · refine r_iload_n dX5_marks_58 3 rfl ?_
      refine r_aload_n dX5_marks_59 0 rfl ?_
      refine r_get FX5 0 (Nat.le_of_ble_eq_true rfl) kf_X5_12 0 (qC_0 Z w) rfl dX5_marks_60 ?_
      refine r_aload_n dX5_marks_63 0 rfl ?_
      refine r_get FX5 1 (Nat.le_of_ble_eq_true rfl) kf_X5_20 0 (qC_0 Z w) rfl dX5_marks_64 ?_
      refine r_iload_n dX5_marks_67 1 rfl ?_
      refine r_iload dX5_marks_68 5 rfl ?_
      refine r_iload dX5_marks_70 4 rfl ?_
      refine r_callV_I [Value.int x1, Value.int x5, Value.int x4] cfX4_place (m_X4_place Z w x1 x5 x4) km_X5_71 ⟨rfl, rfl, (Nat.le_of_ble_eq_true rfl), (Nat.le_of_ble_eq_true rfl)⟩ rfl rfl 10 (qC_10 Z w) rfl rfl (Nat.le_of_ble_eq_true rfl) dX5_marks_72 (fun v3 => ?_)
      refine r_callV_Iw [Value.int v3] cfX2_markOf (m_X2_markOf Z w v3) km_X5_129 ⟨rfl, rfl, (Nat.le_of_ble_eq_true rfl), (Nat.le_of_ble_eq_true rfl)⟩ rfl rfl 1 (qC_1 Z w) rfl rfl (Nat.le_of_ble_eq_true rfl) dX5_marks_75 (fun z4 => ?_)
      refine r_iload_n dX5_marks_78 2 rfl ?_
      refine r_icmp_ne (tgt := 86) dX5_marks_79 (by decide) (fun _ => ?_) (fun _ => ?_)
      · refine r_iconst (v := 0) dX5_marks_86 (by decide) ?_
        refine r_lv [0, 1, 2, 4, 5] rfl ?_
        exact wk_X5_marks_b87 Z z4.2 x1 x2 x4 x5 (0 : Int32) x3 _ (ih)
      · refine r_iconst (v := 1) dX5_marks_82 (by decide) ?_
        refine r_goto (tgt := 87) dX5_marks_83 (by decide) ?_
        refine r_lv [0, 1, 2, 4, 5] rfl ?_
        exact wk_X5_marks_b87 Z z4.2 x1 x2 x4 x5 (1 : Int32) x3 _ (ih)
def f_X5_marks_b31 (x1 : Int32) (x2 : Int32) : Nat → Int32 → Int32 → Wd → Option (Int32 × Wd)
  | 0, _, _, _ => none
  | n + 1, x3, x4, w =>
  if (w.1 10 1) ≤ x4 then (some (x3, w)) else (f_X5_marks_b46 x1 x2 x4 (f_X5_marks_b31 x1 x2 n) FUEL x3 (0 : Int32) w)
set_option maxRecDepth 100000 in
set_option maxHeartbeats 4000000 in
theorem wk_X5_marks_b31 (Z : CSp) (x1 : Int32) (x2 : Int32)  : ∀ (n : Nat) (x3 : Int32) (x4 : Int32) (w : Wd), Wm (EC Z) MX5_marks oIw w 31 [(0, Value.ref (aC Z 0)), (1, Value.int x1), (2, Value.int x2), (3, Value.int x3), (4, Value.int x4)] [] (f_X5_marks_b31 x1 x2 n x3 x4 w) := by
  intro n
  induction n with
  | zero =>
    intro x3 x4 w
    exact r_none
  | succ n ih =>
    intro x3 x4 w
    rw [f_X5_marks_b31]
    refine r_iload dX5_marks_31 4 rfl ?_
    refine r_aload_n dX5_marks_33 0 rfl ?_
    refine r_get FX5 1 (Nat.le_of_ble_eq_true rfl) kf_X5_20 0 (qC_0 Z w) rfl dX5_marks_34 ?_
    refine r_get FX4 1 (Nat.le_of_ble_eq_true rfl) kf_X5_154 10 (qC_10 Z w) rfl dX5_marks_37 ?_
    refine r_icmp_ge (tgt := 101) dX5_marks_40 (by decide) (fun _ => ?_) (fun _ => ?_)
    · refine r_iload_n dX5_marks_101 3 rfl ?_
      exact r_iretw rfl dX5_marks_102
    · refine r_iconst (v := 0) dX5_marks_43 (by decide) ?_
      refine r_istore (lv' := [(0, Value.ref (aC Z 0)), (1, Value.int x1), (2, Value.int x2), (3, Value.int x3), (4, Value.int x4), (5, Value.int (0 : Int32))]) dX5_marks_44 (Nat.le_of_ble_eq_true rfl) [1, 2, 3, 4, 5, 0] rfl ?_
      exact wk_X5_marks_b46 Z x1 x2 x4 _ (ih) FUEL x3 (0 : Int32) w
def f_X5_marks_b18 (w : Wd) : Option (Int32 × Wd) :=
  (f_X5_refuse (-10002 : Int32) w).bind (fun z2 => some (z2.1, z2.2))
set_option maxRecDepth 100000 in
set_option maxHeartbeats 4000000 in
theorem wk_X5_marks_b18 (Z : CSp) (w : Wd)   : Wm (EC Z) MX5_marks oIw w 18 [(0, Value.ref (aC Z 0))] [] (f_X5_marks_b18 w) := by
  unfold f_X5_marks_b18
  refine r_aload_n dX5_marks_18 0 rfl ?_
  refine r_sipush (v := -10002) dX5_marks_19 (by decide) ?_
  refine r_callV_Iw [Value.int (-10002 : Int32)] cfX5_refuse (m_X5_refuse Z w (-10002 : Int32)) km_X5_92 ⟨rfl, rfl, (Nat.le_of_ble_eq_true rfl), (Nat.le_of_ble_eq_true rfl)⟩ rfl rfl 0 (qC_0 Z w) rfl rfl (Nat.le_of_ble_eq_true rfl) dX5_marks_22 (fun z2 => ?_)
  exact r_iretw rfl dX5_marks_25
def f_X5_marks (x1 : Int32) (x2 : Int32) (w : Wd) : Option (Int32 × Wd) :=
  (f_X5_within x1 (0 : Int32) (1 : Int32)).bind (fun v1 => if v1 = 0 then (f_X5_marks_b18 w) else ((f_X5_within x2 (0 : Int32) (5 : Int32)).bind (fun v2 => if v2 = 0 then (f_X5_marks_b18 w) else (f_X5_marks_b31 x1 x2 FUEL (0 : Int32) (0 : Int32) w))))
set_option maxRecDepth 100000 in
set_option maxHeartbeats 4000000 in
theorem wk_X5_marks (Z : CSp) (w : Wd) (x1 : Int32) (x2 : Int32)  : Wm (EC Z) MX5_marks oIw w 0 [(0, Value.ref (aC Z 0)), (1, Value.int x1), (2, Value.int x2)] [] (f_X5_marks x1 x2 w) := by
  unfold f_X5_marks
  refine r_iload_n dX5_marks_0 1 rfl ?_
  refine r_iconst (v := 0) dX5_marks_1 (by decide) ?_
  refine r_iconst (v := 1) dX5_marks_2 (by decide) ?_
  refine r_callS_I [Value.int x1, Value.int (0 : Int32), Value.int (1 : Int32)] cfX5_within (m_X5_within Z w x1 (0 : Int32) (1 : Int32)) km_X5_88 ⟨rfl, rfl, (Nat.le_of_ble_eq_true rfl), (Nat.le_of_ble_eq_true rfl)⟩ rfl rfl (Nat.le_of_ble_eq_true rfl) dX5_marks_3 (fun v1 => ?_)
  refine r_if_eq (tgt := 18) dX5_marks_6 (by decide) (fun _ => ?_) (fun _ => ?_)
  · refine r_lv [0] rfl ?_
    exact wk_X5_marks_b18 Z w
  · refine r_iload_n dX5_marks_9 2 rfl ?_
    refine r_iconst (v := 0) dX5_marks_10 (by decide) ?_
    refine r_iconst (v := 5) dX5_marks_11 (by decide) ?_
    refine r_callS_I [Value.int x2, Value.int (0 : Int32), Value.int (5 : Int32)] cfX5_within (m_X5_within Z w x2 (0 : Int32) (5 : Int32)) km_X5_88 ⟨rfl, rfl, (Nat.le_of_ble_eq_true rfl), (Nat.le_of_ble_eq_true rfl)⟩ rfl rfl (Nat.le_of_ble_eq_true rfl) dX5_marks_12 (fun v2 => ?_)
    refine r_if_ne (tgt := 26) dX5_marks_15 (by decide) (fun _ => ?_) (fun _ => ?_)
    · refine r_iconst (v := 0) dX5_marks_26 (by decide) ?_
      refine r_istore_n (lv' := [(0, Value.ref (aC Z 0)), (1, Value.int x1), (2, Value.int x2), (3, Value.int (0 : Int32))]) dX5_marks_27 (Nat.le_of_ble_eq_true rfl) [1, 2, 3, 0] rfl ?_
      refine r_iconst (v := 0) dX5_marks_28 (by decide) ?_
      refine r_istore (lv' := [(0, Value.ref (aC Z 0)), (1, Value.int x1), (2, Value.int x2), (3, Value.int (0 : Int32)), (4, Value.int (0 : Int32))]) dX5_marks_29 (Nat.le_of_ble_eq_true rfl) [1, 2, 3, 4, 0] rfl ?_
      exact wk_X5_marks_b31 Z x1 x2 FUEL (0 : Int32) (0 : Int32) w
    · refine r_lv [0] rfl ?_
      exact wk_X5_marks_b18 Z w
theorem m_X5_marks (Z : CSp) (w : Wd) (x1 : Int32) (x2 : Int32) : MetM (EC Z) yX5_marks cX5_marks 6 (some .int) { frames := 5, cells := 0, slots := 0, locals := 121 } oIw [Value.ref (aC Z 0), Value.int x1, Value.int x2] w (f_X5_marks x1 x2 w) := MetM_of (plainFor_of_name (by decide)) (Nat.le_of_ble_eq_true rfl) (wk_X5_marks Z w x1 x2)
abbrev MX5_mean : Mt := (cX5_mean, RX5, 2, some .long, { frames := 7, cells := 0, slots := 0, locals := 168 })
def f_X5_mean_b28 (s0 : Int64) (w : Wd) : Option (Int64 × Wd) :=
  some (s0, w)
set_option maxRecDepth 100000 in
set_option maxHeartbeats 4000000 in
theorem wk_X5_mean_b28 (Z : CSp) (w : Wd) (s0 : Int64)  : Wm (EC Z) MX5_mean oLw w 28 [] [Value.long s0] (f_X5_mean_b28 s0 w) := by
  unfold f_X5_mean_b28
  exact r_lretw rfl dX5_mean_28
def f_X5_mean (x1 : Int32) (w : Wd) : Option (Int64 × Wd) :=
  (f_X5_within x1 (0 : Int32) (1 : Int32)).bind (fun v1 => if v1 = 0 then ((f_X5_refuse (-10002 : Int32) w).bind (fun z2 => f_X5_mean_b28 ((z2.1).toInt64) z2.2)) else ((f_X2_meanBits x1 w).bind (fun z3 => f_X5_mean_b28 z3.1 z3.2)))
set_option maxRecDepth 100000 in
set_option maxHeartbeats 4000000 in
theorem wk_X5_mean (Z : CSp) (w : Wd) (x1 : Int32)  : Wm (EC Z) MX5_mean oLw w 0 [(0, Value.ref (aC Z 0)), (1, Value.int x1)] [] (f_X5_mean x1 w) := by
  unfold f_X5_mean
  refine r_iload_n dX5_mean_0 1 rfl ?_
  refine r_iconst (v := 0) dX5_mean_1 (by decide) ?_
  refine r_iconst (v := 1) dX5_mean_2 (by decide) ?_
  refine r_callS_I [Value.int x1, Value.int (0 : Int32), Value.int (1 : Int32)] cfX5_within (m_X5_within Z w x1 (0 : Int32) (1 : Int32)) km_X5_88 ⟨rfl, rfl, (Nat.le_of_ble_eq_true rfl), (Nat.le_of_ble_eq_true rfl)⟩ rfl rfl (Nat.le_of_ble_eq_true rfl) dX5_mean_3 (fun v1 => ?_)
  refine r_if_eq (tgt := 20) dX5_mean_6 (by decide) (fun _ => ?_) (fun _ => ?_)
  · refine r_aload_n dX5_mean_20 0 rfl ?_
    refine r_sipush (v := -10002) dX5_mean_21 (by decide) ?_
    refine r_callV_Iw [Value.int (-10002 : Int32)] cfX5_refuse (m_X5_refuse Z w (-10002 : Int32)) km_X5_92 ⟨rfl, rfl, (Nat.le_of_ble_eq_true rfl), (Nat.le_of_ble_eq_true rfl)⟩ rfl rfl 0 (qC_0 Z w) rfl rfl (Nat.le_of_ble_eq_true rfl) dX5_mean_24 (fun z2 => ?_)
    refine r_i2l dX5_mean_27 ?_
    refine r_lv [] rfl ?_
    exact wk_X5_mean_b28 Z z2.2 ((z2.1).toInt64)
  · refine r_aload_n dX5_mean_9 0 rfl ?_
    refine r_get FX5 0 (Nat.le_of_ble_eq_true rfl) kf_X5_12 0 (qC_0 Z w) rfl dX5_mean_10 ?_
    refine r_iload_n dX5_mean_13 1 rfl ?_
    refine r_callV_Lw [Value.int x1] cfX2_meanBits (m_X2_meanBits Z w x1) km_X5_168 ⟨rfl, rfl, (Nat.le_of_ble_eq_true rfl), (Nat.le_of_ble_eq_true rfl)⟩ rfl rfl 1 (qC_1 Z w) rfl rfl (Nat.le_of_ble_eq_true rfl) dX5_mean_14 (fun z3 => ?_)
    refine r_goto (tgt := 28) dX5_mean_17 (by decide) ?_
    refine r_lv [] rfl ?_
    exact wk_X5_mean_b28 Z z3.2 z3.1
theorem m_X5_mean (Z : CSp) (w : Wd) (x1 : Int32) : MetM (EC Z) yX5_mean cX5_mean 2 (some .long) { frames := 7, cells := 0, slots := 0, locals := 168 } oLw [Value.ref (aC Z 0), Value.int x1] w (f_X5_mean x1 w) := MetM_of (plainFor_of_name (by decide)) (Nat.le_of_ble_eq_true rfl) (wk_X5_mean Z w x1)
abbrev MX5_motion : Mt := (cX5_motion, RX5, 6, some .int, { frames := 7, cells := 0, slots := 0, locals := 164 })
def f_X5_motion_b72 (s0 : Int32) (w : Wd) : Option (Int32 × Wd) :=
  some (s0, w)
set_option maxRecDepth 100000 in
set_option maxHeartbeats 4000000 in
theorem wk_X5_motion_b72 (Z : CSp) (w : Wd) (s0 : Int32)  : Wm (EC Z) MX5_motion oIw w 72 [] [Value.int s0] (f_X5_motion_b72 s0 w) := by
  unfold f_X5_motion_b72
  exact r_iretw rfl dX5_motion_72
def f_X5_motion_b32 (w : Wd) : Option (Int32 × Wd) :=
  (f_X5_refuse (-10002 : Int32) w).bind (fun z2 => some (z2.1, z2.2))
set_option maxRecDepth 100000 in
set_option maxHeartbeats 4000000 in
theorem wk_X5_motion_b32 (Z : CSp) (w : Wd)   : Wm (EC Z) MX5_motion oIw w 32 [(0, Value.ref (aC Z 0))] [] (f_X5_motion_b32 w) := by
  unfold f_X5_motion_b32
  refine r_aload_n dX5_motion_32 0 rfl ?_
  refine r_sipush (v := -10002) dX5_motion_33 (by decide) ?_
  refine r_callV_Iw [Value.int (-10002 : Int32)] cfX5_refuse (m_X5_refuse Z w (-10002 : Int32)) km_X5_92 ⟨rfl, rfl, (Nat.le_of_ble_eq_true rfl), (Nat.le_of_ble_eq_true rfl)⟩ rfl rfl 0 (qC_0 Z w) rfl rfl (Nat.le_of_ble_eq_true rfl) dX5_motion_36 (fun z2 => ?_)
  exact r_iretw rfl dX5_motion_39
def f_X5_motion (x1 : Int32) (x2 : Int32) (w : Wd) : Option (Int32 × Wd) :=
  (f_X4_place (0 : Int32) x1 x2 w).bind (fun v1 => (f_X4_place (1 : Int32) x1 x2 w).bind (fun v2 => if v1 < 0 then (f_X5_motion_b32 w) else (if 0 ≤ v2 then ((f_X2_shift v1 v2 w).bind (fun z3 => if z3.1 = (-10001 : Int32) then ((f_X5_refuse (-10003 : Int32) z3.2).bind (fun z4 => f_X5_motion_b72 z4.1 z4.2)) else (f_X5_motion_b72 z3.1 z3.2))) else (f_X5_motion_b32 w))))
set_option maxRecDepth 100000 in
set_option maxHeartbeats 4000000 in
theorem wk_X5_motion (Z : CSp) (w : Wd) (x1 : Int32) (x2 : Int32)  : Wm (EC Z) MX5_motion oIw w 0 [(0, Value.ref (aC Z 0)), (1, Value.int x1), (2, Value.int x2)] [] (f_X5_motion x1 x2 w) := by
  unfold f_X5_motion
  refine r_aload_n dX5_motion_0 0 rfl ?_
  refine r_get FX5 1 (Nat.le_of_ble_eq_true rfl) kf_X5_20 0 (qC_0 Z w) rfl dX5_motion_1 ?_
  refine r_iconst (v := 0) dX5_motion_4 (by decide) ?_
  refine r_iload_n dX5_motion_5 1 rfl ?_
  refine r_iload_n dX5_motion_6 2 rfl ?_
  refine r_callV_I [Value.int (0 : Int32), Value.int x1, Value.int x2] cfX4_place (m_X4_place Z w (0 : Int32) x1 x2) km_X5_71 ⟨rfl, rfl, (Nat.le_of_ble_eq_true rfl), (Nat.le_of_ble_eq_true rfl)⟩ rfl rfl 10 (qC_10 Z w) rfl rfl (Nat.le_of_ble_eq_true rfl) dX5_motion_7 (fun v1 => ?_)
  refine r_istore_n (lv' := [(0, Value.ref (aC Z 0)), (1, Value.int x1), (2, Value.int x2), (3, Value.int v1)]) dX5_motion_10 (Nat.le_of_ble_eq_true rfl) [1, 2, 3, 0] rfl ?_
  refine r_aload_n dX5_motion_11 0 rfl ?_
  refine r_get FX5 1 (Nat.le_of_ble_eq_true rfl) kf_X5_20 0 (qC_0 Z w) rfl dX5_motion_12 ?_
  refine r_iconst (v := 1) dX5_motion_15 (by decide) ?_
  refine r_iload_n dX5_motion_16 1 rfl ?_
  refine r_iload_n dX5_motion_17 2 rfl ?_
  refine r_callV_I [Value.int (1 : Int32), Value.int x1, Value.int x2] cfX4_place (m_X4_place Z w (1 : Int32) x1 x2) km_X5_71 ⟨rfl, rfl, (Nat.le_of_ble_eq_true rfl), (Nat.le_of_ble_eq_true rfl)⟩ rfl rfl 10 (qC_10 Z w) rfl rfl (Nat.le_of_ble_eq_true rfl) dX5_motion_18 (fun v2 => ?_)
  refine r_istore (lv' := [(0, Value.ref (aC Z 0)), (1, Value.int x1), (2, Value.int x2), (3, Value.int v1), (4, Value.int v2)]) dX5_motion_21 (Nat.le_of_ble_eq_true rfl) [1, 2, 3, 4, 0] rfl ?_
  refine r_iload_n dX5_motion_23 3 rfl ?_
  refine r_if_lt (tgt := 32) dX5_motion_24 (by decide) (fun _ => ?_) (fun _ => ?_)
  · refine r_lv [0] rfl ?_
    exact wk_X5_motion_b32 Z w
  · refine r_iload dX5_motion_27 4 rfl ?_
    refine r_if_ge (tgt := 40) dX5_motion_29 (by decide) (fun _ => ?_) (fun _ => ?_)
    · refine r_aload_n dX5_motion_40 0 rfl ?_
      refine r_get FX5 0 (Nat.le_of_ble_eq_true rfl) kf_X5_12 0 (qC_0 Z w) rfl dX5_motion_41 ?_
      refine r_iload_n dX5_motion_44 3 rfl ?_
      refine r_iload dX5_motion_45 4 rfl ?_
      refine r_callV_Iw [Value.int v1, Value.int v2] cfX2_shift (m_X2_shift Z w v1 v2) km_X5_151 ⟨rfl, rfl, (Nat.le_of_ble_eq_true rfl), (Nat.le_of_ble_eq_true rfl)⟩ rfl rfl 1 (qC_1 Z w) rfl rfl (Nat.le_of_ble_eq_true rfl) dX5_motion_47 (fun z3 => ?_)
      refine r_istore (lv' := [(0, Value.ref (aC Z 0)), (1, Value.int x1), (2, Value.int x2), (3, Value.int v1), (4, Value.int v2), (5, Value.int z3.1)]) dX5_motion_50 (Nat.le_of_ble_eq_true rfl) [1, 2, 3, 4, 5, 0] rfl ?_
      refine r_iload dX5_motion_52 5 rfl ?_
      refine r_sipush (v := -10001) dX5_motion_54 (by decide) ?_
      refine r_icmp_ne (tgt := 70) dX5_motion_57 (by decide) (fun _ => ?_) (fun _ => ?_)
      · refine r_iload dX5_motion_70 5 rfl ?_
        refine r_lv [] rfl ?_
        exact wk_X5_motion_b72 Z z3.2 z3.1
      · refine r_aload_n dX5_motion_60 0 rfl ?_
        refine r_sipush (v := -10003) dX5_motion_61 (by decide) ?_
        refine r_callV_Iw [Value.int (-10003 : Int32)] cfX5_refuse (m_X5_refuse Z z3.2 (-10003 : Int32)) km_X5_92 ⟨rfl, rfl, (Nat.le_of_ble_eq_true rfl), (Nat.le_of_ble_eq_true rfl)⟩ rfl rfl 0 (qC_0 Z z3.2) rfl rfl (Nat.le_of_ble_eq_true rfl) dX5_motion_64 (fun z4 => ?_)
        refine r_goto (tgt := 72) dX5_motion_67 (by decide) ?_
        refine r_lv [] rfl ?_
        exact wk_X5_motion_b72 Z z4.2 z4.1
    · refine r_lv [0] rfl ?_
      exact wk_X5_motion_b32 Z w
theorem m_X5_motion (Z : CSp) (w : Wd) (x1 : Int32) (x2 : Int32) : MetM (EC Z) yX5_motion cX5_motion 6 (some .int) { frames := 7, cells := 0, slots := 0, locals := 164 } oIw [Value.ref (aC Z 0), Value.int x1, Value.int x2] w (f_X5_motion x1 x2 w) := MetM_of (plainFor_of_name (by decide)) (Nat.le_of_ble_eq_true rfl) (wk_X5_motion Z w x1 x2)
abbrev MX5_moved : Mt := (cX5_moved, RX5, 5, some .int, { frames := 7, cells := 0, slots := 0, locals := 164 })
def f_X5_moved_b88 (x2 : Int32) (x3 : Int32) (s0 : Int32) (s1 : Int32) (k17 : Int32 → Int32 → Wd → Option (Int32 × Wd)) (w : Wd) : Option (Int32 × Wd) :=
  jlet (s1 + s0) (fun y2 => k17 y2 (x3 + 1) w)
set_option maxRecDepth 100000 in
set_option maxHeartbeats 4000000 in
theorem wk_X5_moved_b88 (Z : CSp) (w : Wd) (x2 : Int32) (x3 : Int32) (s0 : Int32) (s1 : Int32) (k17 : Int32 → Int32 → Wd → Option (Int32 × Wd)) (hk17 : ∀ (x1 : Int32) (x3 : Int32) (w : Wd), Wm (EC Z) MX5_moved oIw w 17 [(0, Value.ref (aC Z 0)), (1, Value.int x1), (2, Value.int x2), (3, Value.int x3)] [] (k17 x1 x3 w)) : Wm (EC Z) MX5_moved oIw w 88 [(0, Value.ref (aC Z 0)), (2, Value.int x2), (3, Value.int x3)] [Value.int s0, Value.int s1] (f_X5_moved_b88 x2 x3 s0 s1 k17 w) := by
  unfold f_X5_moved_b88
  refine r_iadd dX5_moved_88 ?_
  refine r_leti (fun y2 => ?_)
  refine r_istore_n (lv' := [(0, Value.ref (aC Z 0)), (1, Value.int y2), (2, Value.int x2), (3, Value.int x3)]) dX5_moved_89 (Nat.le_of_ble_eq_true rfl) [1, 0, 2, 3] rfl ?_
  refine r_iinc (lv' := [(0, Value.ref (aC Z 0)), (1, Value.int y2), (2, Value.int x2), (3, Value.int (x3 + 1))]) dX5_moved_90 3 rfl (by rfl) (Nat.le_of_ble_eq_true rfl) [1, 2, 3, 0] rfl ?_
  refine r_goto (tgt := 17) dX5_moved_93 (by decide) ?_
  exact hk17 y2 (x3 + 1) w
def f_X5_moved_b87 (x2 : Int32) (x3 : Int32) (s0 : Int32) (k17 : Int32 → Int32 → Wd → Option (Int32 × Wd)) (w : Wd) : Option (Int32 × Wd) :=
  f_X5_moved_b88 x2 x3 (0 : Int32) s0 k17 w
set_option maxRecDepth 100000 in
set_option maxHeartbeats 4000000 in
theorem wk_X5_moved_b87 (Z : CSp) (w : Wd) (x2 : Int32) (x3 : Int32) (s0 : Int32) (k17 : Int32 → Int32 → Wd → Option (Int32 × Wd)) (hk17 : ∀ (x1 : Int32) (x3 : Int32) (w : Wd), Wm (EC Z) MX5_moved oIw w 17 [(0, Value.ref (aC Z 0)), (1, Value.int x1), (2, Value.int x2), (3, Value.int x3)] [] (k17 x1 x3 w)) : Wm (EC Z) MX5_moved oIw w 87 [(0, Value.ref (aC Z 0)), (2, Value.int x2), (3, Value.int x3)] [Value.int s0] (f_X5_moved_b87 x2 x3 s0 k17 w) := by
  unfold f_X5_moved_b87
  refine r_iconst (v := 0) dX5_moved_87 (by decide) ?_
  exact wk_X5_moved_b88 Z w x2 x3 (0 : Int32) s0 k17 hk17
def f_X5_moved_b17 (x2 : Int32) (k4 : Int32 → Int32 → Wd → Option (Int32 × Wd)) : Nat → Int32 → Int32 → Wd → Option (Int32 × Wd)
  | 0, _, _, _ => none
  | n + 1, x1, x3, w =>
  if (w.1 10 0) ≤ x3 then (k4 x1 (x2 + 1) w) else ((f_X4_place (0 : Int32) x3 x2 w).bind (fun v4 => (f_X4_place (1 : Int32) x3 x2 w).bind (fun v5 => (f_X2_shift v4 v5 w).bind (fun z6 => if z6.1 = (-10001 : Int32) then (f_X5_moved_b87 x2 x3 x1 (f_X5_moved_b17 x2 k4 n) z6.2) else (if inb (5 : Int32) 6 = true then (if (if 0 ≤ z6.1 then z6.1 else 0 - z6.1) ≤ (z6.2.1 12 ((5 : Int32)).toNatClampNeg) then (f_X5_moved_b87 x2 x3 x1 (f_X5_moved_b17 x2 k4 n) z6.2) else (f_X5_moved_b88 x2 x3 (1 : Int32) x1 (f_X5_moved_b17 x2 k4 n) z6.2)) else none)))))
set_option maxRecDepth 100000 in
set_option maxHeartbeats 4000000 in
theorem wk_X5_moved_b17 (Z : CSp) (x2 : Int32) (k4 : Int32 → Int32 → Wd → Option (Int32 × Wd)) (hk4 : ∀ (x1 : Int32) (x2 : Int32) (w : Wd), Wm (EC Z) MX5_moved oIw w 4 [(0, Value.ref (aC Z 0)), (1, Value.int x1), (2, Value.int x2)] [] (k4 x1 x2 w)) : ∀ (n : Nat) (x1 : Int32) (x3 : Int32) (w : Wd), Wm (EC Z) MX5_moved oIw w 17 [(0, Value.ref (aC Z 0)), (1, Value.int x1), (2, Value.int x2), (3, Value.int x3)] [] (f_X5_moved_b17 x2 k4 n x1 x3 w) := by
  intro n
  induction n with
  | zero =>
    intro x1 x3 w
    exact r_none
  | succ n ih =>
    intro x1 x3 w
    rw [f_X5_moved_b17]
    refine r_iload_n dX5_moved_17 3 rfl ?_
    refine r_aload_n dX5_moved_18 0 rfl ?_
    refine r_get FX5 1 (Nat.le_of_ble_eq_true rfl) kf_X5_20 0 (qC_0 Z w) rfl dX5_moved_19 ?_
    refine r_get FX4 0 (Nat.le_of_ble_eq_true rfl) kf_X5_157 10 (qC_10 Z w) rfl dX5_moved_22 ?_
    refine r_icmp_ge (tgt := 96) dX5_moved_25 (by decide) (fun _ => ?_) (fun _ => ?_)
    · refine r_iinc (lv' := [(0, Value.ref (aC Z 0)), (1, Value.int x1), (2, Value.int (x2 + 1)), (3, Value.int x3)]) dX5_moved_96 2 rfl (by rfl) (Nat.le_of_ble_eq_true rfl) [1, 2, 0, 3] rfl ?_
      refine r_goto (tgt := 4) dX5_moved_99 (by decide) ?_
      refine r_lv [0, 1, 2] rfl ?_
      exact hk4 x1 (x2 + 1) w
    · refine r_aload_n dX5_moved_28 0 rfl ?_
      refine r_get FX5 0 (Nat.le_of_ble_eq_true rfl) kf_X5_12 0 (qC_0 Z w) rfl dX5_moved_29 ?_
      refine r_aload_n dX5_moved_32 0 rfl ?_
      refine r_get FX5 1 (Nat.le_of_ble_eq_true rfl) kf_X5_20 0 (qC_0 Z w) rfl dX5_moved_33 ?_
      refine r_iconst (v := 0) dX5_moved_36 (by decide) ?_
      refine r_iload_n dX5_moved_37 3 rfl ?_
      refine r_iload_n dX5_moved_38 2 rfl ?_
      refine r_callV_I [Value.int (0 : Int32), Value.int x3, Value.int x2] cfX4_place (m_X4_place Z w (0 : Int32) x3 x2) km_X5_71 ⟨rfl, rfl, (Nat.le_of_ble_eq_true rfl), (Nat.le_of_ble_eq_true rfl)⟩ rfl rfl 10 (qC_10 Z w) rfl rfl (Nat.le_of_ble_eq_true rfl) dX5_moved_39 (fun v4 => ?_)
      refine r_aload_n dX5_moved_42 0 rfl ?_
      refine r_get FX5 1 (Nat.le_of_ble_eq_true rfl) kf_X5_20 0 (qC_0 Z w) rfl dX5_moved_43 ?_
      refine r_iconst (v := 1) dX5_moved_46 (by decide) ?_
      refine r_iload_n dX5_moved_47 3 rfl ?_
      refine r_iload_n dX5_moved_48 2 rfl ?_
      refine r_callV_I [Value.int (1 : Int32), Value.int x3, Value.int x2] cfX4_place (m_X4_place Z w (1 : Int32) x3 x2) km_X5_71 ⟨rfl, rfl, (Nat.le_of_ble_eq_true rfl), (Nat.le_of_ble_eq_true rfl)⟩ rfl rfl 10 (qC_10 Z w) rfl rfl (Nat.le_of_ble_eq_true rfl) dX5_moved_49 (fun v5 => ?_)
      refine r_callV_Iw [Value.int v4, Value.int v5] cfX2_shift (m_X2_shift Z w v4 v5) km_X5_151 ⟨rfl, rfl, (Nat.le_of_ble_eq_true rfl), (Nat.le_of_ble_eq_true rfl)⟩ rfl rfl 1 (qC_1 Z w) rfl rfl (Nat.le_of_ble_eq_true rfl) dX5_moved_52 (fun z6 => ?_)
      refine r_istore (lv' := [(0, Value.ref (aC Z 0)), (1, Value.int x1), (2, Value.int x2), (3, Value.int x3), (4, Value.int z6.1)]) dX5_moved_55 (Nat.le_of_ble_eq_true rfl) [1, 2, 3, 4, 0] rfl ?_
      refine r_iload_n dX5_moved_57 1 rfl ?_
      refine r_iload dX5_moved_58 4 rfl ?_
      refine r_sipush (v := -10001) dX5_moved_60 (by decide) ?_
      refine r_icmp_eq (tgt := 87) dX5_moved_63 (by decide) (fun _ => ?_) (fun _ => ?_)
      · refine r_lv [0, 2, 3] rfl ?_
        exact wk_X5_moved_b87 Z z6.2 x2 x3 x1 _ (ih)
      · refine r_iload dX5_moved_66 4 rfl ?_
        refine r_mabs km_X5_160 ⟨(Nat.le_of_ble_eq_true rfl), (Nat.le_of_ble_eq_true rfl)⟩ dX5_moved_68 ?_
        refine r_aload_n dX5_moved_71 0 rfl ?_
        refine r_get FX5 1 (Nat.le_of_ble_eq_true rfl) kf_X5_20 0 (qC_0 Z z6.2) rfl dX5_moved_72 ?_
        refine r_get FX4 3 (Nat.le_of_ble_eq_true rfl) kf_X5_165 10 (qC_10 Z z6.2) rfl dX5_moved_75 ?_
        refine r_iconst (v := 5) dX5_moved_78 (by decide) ?_
        refine r_iald 12 (qC_12 Z z6.2) rfl dX5_moved_79 ?_
        refine r_icmp_le (tgt := 87) dX5_moved_80 (by decide) (fun _ => ?_) (fun _ => ?_)
        · refine r_lv [0, 2, 3] rfl ?_
          exact wk_X5_moved_b87 Z z6.2 x2 x3 x1 _ (ih)
        · refine r_iconst (v := 1) dX5_moved_83 (by decide) ?_
          refine r_goto (tgt := 88) dX5_moved_84 (by decide) ?_
          refine r_lv [0, 2, 3] rfl ?_
          exact wk_X5_moved_b88 Z z6.2 x2 x3 (1 : Int32) x1 _ (ih)
def f_X5_moved_b4  : Nat → Int32 → Int32 → Wd → Option (Int32 × Wd)
  | 0, _, _, _ => none
  | n + 1, x1, x2, w =>
  if (w.1 10 1) ≤ x2 then (some (x1, w)) else (f_X5_moved_b17 x2 (f_X5_moved_b4 n) FUEL x1 (0 : Int32) w)
set_option maxRecDepth 100000 in
set_option maxHeartbeats 4000000 in
theorem wk_X5_moved_b4 (Z : CSp)   : ∀ (n : Nat) (x1 : Int32) (x2 : Int32) (w : Wd), Wm (EC Z) MX5_moved oIw w 4 [(0, Value.ref (aC Z 0)), (1, Value.int x1), (2, Value.int x2)] [] (f_X5_moved_b4  n x1 x2 w) := by
  intro n
  induction n with
  | zero =>
    intro x1 x2 w
    exact r_none
  | succ n ih =>
    intro x1 x2 w
    rw [f_X5_moved_b4]
    refine r_iload_n dX5_moved_4 2 rfl ?_
    refine r_aload_n dX5_moved_5 0 rfl ?_
    refine r_get FX5 1 (Nat.le_of_ble_eq_true rfl) kf_X5_20 0 (qC_0 Z w) rfl dX5_moved_6 ?_
    refine r_get FX4 1 (Nat.le_of_ble_eq_true rfl) kf_X5_154 10 (qC_10 Z w) rfl dX5_moved_9 ?_
    refine r_icmp_ge (tgt := 102) dX5_moved_12 (by decide) (fun _ => ?_) (fun _ => ?_)
    · refine r_iload_n dX5_moved_102 1 rfl ?_
      exact r_iretw rfl dX5_moved_103
    · refine r_iconst (v := 0) dX5_moved_15 (by decide) ?_
      refine r_istore_n (lv' := [(0, Value.ref (aC Z 0)), (1, Value.int x1), (2, Value.int x2), (3, Value.int (0 : Int32))]) dX5_moved_16 (Nat.le_of_ble_eq_true rfl) [1, 2, 3, 0] rfl ?_
      exact wk_X5_moved_b17 Z x2 _ (ih) FUEL x1 (0 : Int32) w
def f_X5_moved (w : Wd) : Option (Int32 × Wd) :=
  f_X5_moved_b4 FUEL (0 : Int32) (0 : Int32) w
set_option maxRecDepth 100000 in
set_option maxHeartbeats 4000000 in
theorem wk_X5_moved (Z : CSp) (w : Wd)   : Wm (EC Z) MX5_moved oIw w 0 [(0, Value.ref (aC Z 0))] [] (f_X5_moved w) := by
  unfold f_X5_moved
  refine r_iconst (v := 0) dX5_moved_0 (by decide) ?_
  refine r_istore_n (lv' := [(0, Value.ref (aC Z 0)), (1, Value.int (0 : Int32))]) dX5_moved_1 (Nat.le_of_ble_eq_true rfl) [1, 0] rfl ?_
  refine r_iconst (v := 0) dX5_moved_2 (by decide) ?_
  refine r_istore_n (lv' := [(0, Value.ref (aC Z 0)), (1, Value.int (0 : Int32)), (2, Value.int (0 : Int32))]) dX5_moved_3 (Nat.le_of_ble_eq_true rfl) [1, 2, 0] rfl ?_
  exact wk_X5_moved_b4 Z FUEL (0 : Int32) (0 : Int32) w
theorem m_X5_moved (Z : CSp) (w : Wd)  : MetM (EC Z) yX5_moved cX5_moved 5 (some .int) { frames := 7, cells := 0, slots := 0, locals := 164 } oIw [Value.ref (aC Z 0)] w (f_X5_moved w) := MetM_of (plainFor_of_name (by decide)) (Nat.le_of_ble_eq_true rfl) (wk_X5_moved Z w )
abbrev MX5_of : Mt := (cX5_of, RX5, 9, some .int, { frames := 3, cells := 0, slots := 0, locals := 68 })
def f_X5_of_b37 (w : Wd) : Option (Int32 × Wd) :=
  (f_X5_refuse (-10002 : Int32) w).bind (fun z2 => some (z2.1, z2.2))
set_option maxRecDepth 100000 in
set_option maxHeartbeats 4000000 in
theorem wk_X5_of_b37 (Z : CSp) (w : Wd)   : Wm (EC Z) MX5_of oIw w 37 [(0, Value.ref (aC Z 0))] [] (f_X5_of_b37 w) := by
  unfold f_X5_of_b37
  refine r_aload_n dX5_of_37 0 rfl ?_
  refine r_sipush (v := -10002) dX5_of_38 (by decide) ?_
  refine r_callV_Iw [Value.int (-10002 : Int32)] cfX5_refuse (m_X5_refuse Z w (-10002 : Int32)) km_X5_92 ⟨rfl, rfl, (Nat.le_of_ble_eq_true rfl), (Nat.le_of_ble_eq_true rfl)⟩ rfl rfl 0 (qC_0 Z w) rfl rfl (Nat.le_of_ble_eq_true rfl) dX5_of_41 (fun z2 => ?_)
  exact r_iretw rfl dX5_of_44
def f_X5_of (x1 : Int32) (x2 : Int32) (x3 : Int32) (x4 : Int32) (x5 : Int32) (w : Wd) : Option (Int32 × Wd) :=
  (f_X4_place x1 x2 x3 w).bind (fun v1 => if v1 < 0 then (f_X5_of_b37 w) else ((f_X5_within x4 (0 : Int32) (2 : Int32)).bind (fun v2 => if v2 = 0 then (f_X5_of_b37 w) else ((f_X5_within x5 (0 : Int32) (3 : Int32)).bind (fun v3 => if v3 = 0 then (f_X5_of_b37 w) else ((f_X4_across v1 x4 w).bind (fun v4 => (f_X4_along v1 x4 w).bind (fun v5 => if x5 = 0 then (some (v4, w)) else (if x5 = 1 then (some (v5, w)) else (if x5 = 2 then ((f_X3_size v4 v5).bind (fun v6 => some (v6, w))) else (if inb x4 3 = true then ((f_X3_residue v4 v5 (w.1 11 (x4).toNatClampNeg)).bind (fun v7 => some (v7, w))) else none)))))))))))
set_option maxRecDepth 100000 in
set_option maxHeartbeats 4000000 in
theorem wk_X5_of (Z : CSp) (w : Wd) (x1 : Int32) (x2 : Int32) (x3 : Int32) (x4 : Int32) (x5 : Int32)  : Wm (EC Z) MX5_of oIw w 0 [(0, Value.ref (aC Z 0)), (1, Value.int x1), (2, Value.int x2), (3, Value.int x3), (4, Value.int x4), (5, Value.int x5)] [] (f_X5_of x1 x2 x3 x4 x5 w) := by
  unfold f_X5_of
  refine r_aload_n dX5_of_0 0 rfl ?_
  refine r_get FX5 1 (Nat.le_of_ble_eq_true rfl) kf_X5_20 0 (qC_0 Z w) rfl dX5_of_1 ?_
  refine r_iload_n dX5_of_4 1 rfl ?_
  refine r_iload_n dX5_of_5 2 rfl ?_
  refine r_iload_n dX5_of_6 3 rfl ?_
  refine r_callV_I [Value.int x1, Value.int x2, Value.int x3] cfX4_place (m_X4_place Z w x1 x2 x3) km_X5_71 ⟨rfl, rfl, (Nat.le_of_ble_eq_true rfl), (Nat.le_of_ble_eq_true rfl)⟩ rfl rfl 10 (qC_10 Z w) rfl rfl (Nat.le_of_ble_eq_true rfl) dX5_of_7 (fun v1 => ?_)
  refine r_istore (lv' := [(0, Value.ref (aC Z 0)), (1, Value.int x1), (2, Value.int x2), (3, Value.int x3), (4, Value.int x4), (5, Value.int x5), (6, Value.int v1)]) dX5_of_10 (Nat.le_of_ble_eq_true rfl) [1, 2, 3, 4, 5, 6, 0] rfl ?_
  refine r_iload dX5_of_12 6 rfl ?_
  refine r_if_lt (tgt := 37) dX5_of_14 (by decide) (fun _ => ?_) (fun _ => ?_)
  · refine r_lv [0] rfl ?_
    exact wk_X5_of_b37 Z w
  · refine r_iload dX5_of_17 4 rfl ?_
    refine r_iconst (v := 0) dX5_of_19 (by decide) ?_
    refine r_iconst (v := 2) dX5_of_20 (by decide) ?_
    refine r_callS_I [Value.int x4, Value.int (0 : Int32), Value.int (2 : Int32)] cfX5_within (m_X5_within Z w x4 (0 : Int32) (2 : Int32)) km_X5_88 ⟨rfl, rfl, (Nat.le_of_ble_eq_true rfl), (Nat.le_of_ble_eq_true rfl)⟩ rfl rfl (Nat.le_of_ble_eq_true rfl) dX5_of_21 (fun v2 => ?_)
    refine r_if_eq (tgt := 37) dX5_of_24 (by decide) (fun _ => ?_) (fun _ => ?_)
    · refine r_lv [0] rfl ?_
      exact wk_X5_of_b37 Z w
    · refine r_iload dX5_of_27 5 rfl ?_
      refine r_iconst (v := 0) dX5_of_29 (by decide) ?_
      refine r_iconst (v := 3) dX5_of_30 (by decide) ?_
      refine r_callS_I [Value.int x5, Value.int (0 : Int32), Value.int (3 : Int32)] cfX5_within (m_X5_within Z w x5 (0 : Int32) (3 : Int32)) km_X5_88 ⟨rfl, rfl, (Nat.le_of_ble_eq_true rfl), (Nat.le_of_ble_eq_true rfl)⟩ rfl rfl (Nat.le_of_ble_eq_true rfl) dX5_of_31 (fun v3 => ?_)
      refine r_if_ne (tgt := 45) dX5_of_34 (by decide) (fun _ => ?_) (fun _ => ?_)
      · refine r_aload_n dX5_of_45 0 rfl ?_
        refine r_get FX5 1 (Nat.le_of_ble_eq_true rfl) kf_X5_20 0 (qC_0 Z w) rfl dX5_of_46 ?_
        refine r_iload dX5_of_49 6 rfl ?_
        refine r_iload dX5_of_51 4 rfl ?_
        refine r_callV_I [Value.int v1, Value.int x4] cfX4_across (m_X4_across Z w v1 x4) km_X5_98 ⟨rfl, rfl, (Nat.le_of_ble_eq_true rfl), (Nat.le_of_ble_eq_true rfl)⟩ rfl rfl 10 (qC_10 Z w) rfl rfl (Nat.le_of_ble_eq_true rfl) dX5_of_53 (fun v4 => ?_)
        refine r_istore (lv' := [(0, Value.ref (aC Z 0)), (1, Value.int x1), (2, Value.int x2), (3, Value.int x3), (4, Value.int x4), (5, Value.int x5), (6, Value.int v1), (7, Value.int v4)]) dX5_of_56 (Nat.le_of_ble_eq_true rfl) [1, 2, 3, 4, 5, 6, 7, 0] rfl ?_
        refine r_aload_n dX5_of_58 0 rfl ?_
        refine r_get FX5 1 (Nat.le_of_ble_eq_true rfl) kf_X5_20 0 (qC_0 Z w) rfl dX5_of_59 ?_
        refine r_iload dX5_of_62 6 rfl ?_
        refine r_iload dX5_of_64 4 rfl ?_
        refine r_callV_I [Value.int v1, Value.int x4] cfX4_along (m_X4_along Z w v1 x4) km_X5_101 ⟨rfl, rfl, (Nat.le_of_ble_eq_true rfl), (Nat.le_of_ble_eq_true rfl)⟩ rfl rfl 10 (qC_10 Z w) rfl rfl (Nat.le_of_ble_eq_true rfl) dX5_of_66 (fun v5 => ?_)
        refine r_istore (lv' := [(0, Value.ref (aC Z 0)), (1, Value.int x1), (2, Value.int x2), (3, Value.int x3), (4, Value.int x4), (5, Value.int x5), (6, Value.int v1), (7, Value.int v4), (8, Value.int v5)]) dX5_of_69 (Nat.le_of_ble_eq_true rfl) [1, 2, 3, 4, 5, 6, 7, 8, 0] rfl ?_
        refine r_iload dX5_of_71 5 rfl ?_
        refine r_split (fun h0 => ?_) (fun h0 => ?_)
        · refine r_tin (k := 0) (tgt := 100) dX5_of_73 h0 (by decide) ?_
          refine r_iload dX5_of_100 7 rfl ?_
          exact r_iretw rfl dX5_of_102
        refine r_split (fun h1 => ?_) (fun h1 => ?_)
        · refine r_tin (k := 1) (tgt := 103) dX5_of_73 h1 (by decide) ?_
          refine r_iload dX5_of_103 8 rfl ?_
          exact r_iretw rfl dX5_of_105
        refine r_split (fun h2 => ?_) (fun h2 => ?_)
        · refine r_tin (k := 2) (tgt := 106) dX5_of_73 h2 (by decide) ?_
          refine r_iload dX5_of_106 7 rfl ?_
          refine r_iload dX5_of_108 8 rfl ?_
          refine r_callS_I [Value.int v4, Value.int v5] cfX3_size (m_X3_size Z w v4 v5) km_X5_104 ⟨rfl, rfl, (Nat.le_of_ble_eq_true rfl), (Nat.le_of_ble_eq_true rfl)⟩ rfl rfl (Nat.le_of_ble_eq_true rfl) dX5_of_110 (fun v6 => ?_)
          exact r_iretw rfl dX5_of_113
        refine r_tout (tgt := 114) dX5_of_73 (by have g0 := lv_neT h0 (a := 0) (by decide); have g1 := lv_neT h1 (a := 1) (by decide); have g2 := lv_neT h2 (a := 2) (by decide); omega) (by decide) ?_
        refine r_iload dX5_of_114 7 rfl ?_
        refine r_iload dX5_of_116 8 rfl ?_
        refine r_aload_n dX5_of_118 0 rfl ?_
        refine r_get FX5 1 (Nat.le_of_ble_eq_true rfl) kf_X5_20 0 (qC_0 Z w) rfl dX5_of_119 ?_
        refine r_get FX4 2 (Nat.le_of_ble_eq_true rfl) kf_X5_109 10 (qC_10 Z w) rfl dX5_of_122 ?_
        refine r_iload dX5_of_125 4 rfl ?_
        refine r_iald 11 (qC_11 Z w) rfl dX5_of_127 ?_
        refine r_callS_I [Value.int v4, Value.int v5, Value.int (w.1 11 (x4).toNatClampNeg)] cfX3_residue (m_X3_residue Z w v4 v5 (w.1 11 (x4).toNatClampNeg)) km_X5_113 ⟨rfl, rfl, (Nat.le_of_ble_eq_true rfl), (Nat.le_of_ble_eq_true rfl)⟩ rfl rfl (Nat.le_of_ble_eq_true rfl) dX5_of_128 (fun v7 => ?_)
        exact r_iretw rfl dX5_of_131
      · refine r_lv [0] rfl ?_
        exact wk_X5_of_b37 Z w
theorem m_X5_of (Z : CSp) (w : Wd) (x1 : Int32) (x2 : Int32) (x3 : Int32) (x4 : Int32) (x5 : Int32) : MetM (EC Z) yX5_of cX5_of 9 (some .int) { frames := 3, cells := 0, slots := 0, locals := 68 } oIw [Value.ref (aC Z 0), Value.int x1, Value.int x2, Value.int x3, Value.int x4, Value.int x5] w (f_X5_of x1 x2 x3 x4 x5 w) := MetM_of (plainFor_of_name (by decide)) (Nat.le_of_ble_eq_true rfl) (wk_X5_of Z w x1 x2 x3 x4 x5)
abbrev MX5_raw : Mt := (cX5_raw, RX5, 7, some .int, { frames := 2, cells := 0, slots := 0, locals := 46 })
def f_X5_raw_b37 (w : Wd) : Option (Int32 × Wd) :=
  (f_X5_refuse (-10002 : Int32) w).bind (fun z2 => some (z2.1, z2.2))
set_option maxRecDepth 100000 in
set_option maxHeartbeats 4000000 in
theorem wk_X5_raw_b37 (Z : CSp) (w : Wd)   : Wm (EC Z) MX5_raw oIw w 37 [(0, Value.ref (aC Z 0))] [] (f_X5_raw_b37 w) := by
  unfold f_X5_raw_b37
  refine r_aload_n dX5_raw_37 0 rfl ?_
  refine r_sipush (v := -10002) dX5_raw_38 (by decide) ?_
  refine r_callV_Iw [Value.int (-10002 : Int32)] cfX5_refuse (m_X5_refuse Z w (-10002 : Int32)) km_X5_92 ⟨rfl, rfl, (Nat.le_of_ble_eq_true rfl), (Nat.le_of_ble_eq_true rfl)⟩ rfl rfl 0 (qC_0 Z w) rfl rfl (Nat.le_of_ble_eq_true rfl) dX5_raw_41 (fun z2 => ?_)
  exact r_iretw rfl dX5_raw_44
def f_X5_raw (x1 : Int32) (x2 : Int32) (x3 : Int32) (x4 : Int32) (x5 : Int32) (w : Wd) : Option (Int32 × Wd) :=
  (f_X4_place x1 x2 x3 w).bind (fun v1 => if v1 < 0 then (f_X5_raw_b37 w) else ((f_X5_within x4 (0 : Int32) (2 : Int32)).bind (fun v2 => if v2 = 0 then (f_X5_raw_b37 w) else ((f_X5_within x5 (0 : Int32) (3 : Int32)).bind (fun v3 => if v3 = 0 then (f_X5_raw_b37 w) else ((f_X4_sampleAt v1 x4 x5 w).bind (fun v4 => some (v4, w))))))))
set_option maxRecDepth 100000 in
set_option maxHeartbeats 4000000 in
theorem wk_X5_raw (Z : CSp) (w : Wd) (x1 : Int32) (x2 : Int32) (x3 : Int32) (x4 : Int32) (x5 : Int32)  : Wm (EC Z) MX5_raw oIw w 0 [(0, Value.ref (aC Z 0)), (1, Value.int x1), (2, Value.int x2), (3, Value.int x3), (4, Value.int x4), (5, Value.int x5)] [] (f_X5_raw x1 x2 x3 x4 x5 w) := by
  unfold f_X5_raw
  refine r_aload_n dX5_raw_0 0 rfl ?_
  refine r_get FX5 1 (Nat.le_of_ble_eq_true rfl) kf_X5_20 0 (qC_0 Z w) rfl dX5_raw_1 ?_
  refine r_iload_n dX5_raw_4 1 rfl ?_
  refine r_iload_n dX5_raw_5 2 rfl ?_
  refine r_iload_n dX5_raw_6 3 rfl ?_
  refine r_callV_I [Value.int x1, Value.int x2, Value.int x3] cfX4_place (m_X4_place Z w x1 x2 x3) km_X5_71 ⟨rfl, rfl, (Nat.le_of_ble_eq_true rfl), (Nat.le_of_ble_eq_true rfl)⟩ rfl rfl 10 (qC_10 Z w) rfl rfl (Nat.le_of_ble_eq_true rfl) dX5_raw_7 (fun v1 => ?_)
  refine r_istore (lv' := [(0, Value.ref (aC Z 0)), (1, Value.int x1), (2, Value.int x2), (3, Value.int x3), (4, Value.int x4), (5, Value.int x5), (6, Value.int v1)]) dX5_raw_10 (Nat.le_of_ble_eq_true rfl) [1, 2, 3, 4, 5, 6, 0] rfl ?_
  refine r_iload dX5_raw_12 6 rfl ?_
  refine r_if_lt (tgt := 37) dX5_raw_14 (by decide) (fun _ => ?_) (fun _ => ?_)
  · refine r_lv [0] rfl ?_
    exact wk_X5_raw_b37 Z w
  · refine r_iload dX5_raw_17 4 rfl ?_
    refine r_iconst (v := 0) dX5_raw_19 (by decide) ?_
    refine r_iconst (v := 2) dX5_raw_20 (by decide) ?_
    refine r_callS_I [Value.int x4, Value.int (0 : Int32), Value.int (2 : Int32)] cfX5_within (m_X5_within Z w x4 (0 : Int32) (2 : Int32)) km_X5_88 ⟨rfl, rfl, (Nat.le_of_ble_eq_true rfl), (Nat.le_of_ble_eq_true rfl)⟩ rfl rfl (Nat.le_of_ble_eq_true rfl) dX5_raw_21 (fun v2 => ?_)
    refine r_if_eq (tgt := 37) dX5_raw_24 (by decide) (fun _ => ?_) (fun _ => ?_)
    · refine r_lv [0] rfl ?_
      exact wk_X5_raw_b37 Z w
    · refine r_iload dX5_raw_27 5 rfl ?_
      refine r_iconst (v := 0) dX5_raw_29 (by decide) ?_
      refine r_iconst (v := 3) dX5_raw_30 (by decide) ?_
      refine r_callS_I [Value.int x5, Value.int (0 : Int32), Value.int (3 : Int32)] cfX5_within (m_X5_within Z w x5 (0 : Int32) (3 : Int32)) km_X5_88 ⟨rfl, rfl, (Nat.le_of_ble_eq_true rfl), (Nat.le_of_ble_eq_true rfl)⟩ rfl rfl (Nat.le_of_ble_eq_true rfl) dX5_raw_31 (fun v3 => ?_)
      refine r_if_ne (tgt := 45) dX5_raw_34 (by decide) (fun _ => ?_) (fun _ => ?_)
      · refine r_aload_n dX5_raw_45 0 rfl ?_
        refine r_get FX5 1 (Nat.le_of_ble_eq_true rfl) kf_X5_20 0 (qC_0 Z w) rfl dX5_raw_46 ?_
        refine r_iload dX5_raw_49 6 rfl ?_
        refine r_iload dX5_raw_51 4 rfl ?_
        refine r_iload dX5_raw_53 5 rfl ?_
        refine r_callV_I [Value.int v1, Value.int x4, Value.int x5] cfX4_sampleAt (m_X4_sampleAt Z w v1 x4 x5) km_X5_95 ⟨rfl, rfl, (Nat.le_of_ble_eq_true rfl), (Nat.le_of_ble_eq_true rfl)⟩ rfl rfl 10 (qC_10 Z w) rfl rfl (Nat.le_of_ble_eq_true rfl) dX5_raw_55 (fun v4 => ?_)
        exact r_iretw rfl dX5_raw_58
      · refine r_lv [0] rfl ?_
        exact wk_X5_raw_b37 Z w
theorem m_X5_raw (Z : CSp) (w : Wd) (x1 : Int32) (x2 : Int32) (x3 : Int32) (x4 : Int32) (x5 : Int32) : MetM (EC Z) yX5_raw cX5_raw 7 (some .int) { frames := 2, cells := 0, slots := 0, locals := 46 } oIw [Value.ref (aC Z 0), Value.int x1, Value.int x2, Value.int x3, Value.int x4, Value.int x5] w (f_X5_raw x1 x2 x3 x4 x5 w) := MetM_of (plainFor_of_name (by decide)) (Nat.le_of_ble_eq_true rfl) (wk_X5_raw Z w x1 x2 x3 x4 x5)
abbrev MX5_refused : Mt := (cX5_refused, RX5, 2, some .int, { frames := 1, cells := 0, slots := 0, locals := 22 })
def f_X5_refused_b24 (s0 : Int32) (w : Wd) : Option (Int32 × Wd) :=
  some (s0, w)
set_option maxRecDepth 100000 in
set_option maxHeartbeats 4000000 in
theorem wk_X5_refused_b24 (Z : CSp) (w : Wd) (s0 : Int32)  : Wm (EC Z) MX5_refused oIw w 24 [] [Value.int s0] (f_X5_refused_b24 s0 w) := by
  unfold f_X5_refused_b24
  exact r_iretw rfl dX5_refused_24
def f_X5_refused (x1 : Int32) (w : Wd) : Option (Int32 × Wd) :=
  (f_X5_within x1 (0 : Int32) (4 : Int32)).bind (fun v1 => if v1 = 0 then ((f_X5_refuse (-10002 : Int32) w).bind (fun z2 => f_X5_refused_b24 z2.1 z2.2)) else ((f_X5_tally x1 w).bind (fun v3 => f_X5_refused_b24 v3 w)))
set_option maxRecDepth 100000 in
set_option maxHeartbeats 4000000 in
theorem wk_X5_refused (Z : CSp) (w : Wd) (x1 : Int32)  : Wm (EC Z) MX5_refused oIw w 0 [(0, Value.ref (aC Z 0)), (1, Value.int x1)] [] (f_X5_refused x1 w) := by
  unfold f_X5_refused
  refine r_iload_n dX5_refused_0 1 rfl ?_
  refine r_iconst (v := 0) dX5_refused_1 (by decide) ?_
  refine r_iconst (v := 4) dX5_refused_2 (by decide) ?_
  refine r_callS_I [Value.int x1, Value.int (0 : Int32), Value.int (4 : Int32)] cfX5_within (m_X5_within Z w x1 (0 : Int32) (4 : Int32)) km_X5_88 ⟨rfl, rfl, (Nat.le_of_ble_eq_true rfl), (Nat.le_of_ble_eq_true rfl)⟩ rfl rfl (Nat.le_of_ble_eq_true rfl) dX5_refused_3 (fun v1 => ?_)
  refine r_if_eq (tgt := 17) dX5_refused_6 (by decide) (fun _ => ?_) (fun _ => ?_)
  · refine r_aload_n dX5_refused_17 0 rfl ?_
    refine r_sipush (v := -10002) dX5_refused_18 (by decide) ?_
    refine r_callV_Iw [Value.int (-10002 : Int32)] cfX5_refuse (m_X5_refuse Z w (-10002 : Int32)) km_X5_92 ⟨rfl, rfl, (Nat.le_of_ble_eq_true rfl), (Nat.le_of_ble_eq_true rfl)⟩ rfl rfl 0 (qC_0 Z w) rfl rfl (Nat.le_of_ble_eq_true rfl) dX5_refused_21 (fun z2 => ?_)
    refine r_lv [] rfl ?_
    exact wk_X5_refused_b24 Z z2.2 z2.1
  · refine r_aload_n dX5_refused_9 0 rfl ?_
    refine r_iload_n dX5_refused_10 1 rfl ?_
    refine r_callV_I [Value.int x1] cfX5_tally (m_X5_tally Z w x1) km_X5_204 ⟨rfl, rfl, (Nat.le_of_ble_eq_true rfl), (Nat.le_of_ble_eq_true rfl)⟩ rfl rfl 0 (qC_0 Z w) rfl rfl (Nat.le_of_ble_eq_true rfl) dX5_refused_11 (fun v3 => ?_)
    refine r_goto (tgt := 24) dX5_refused_14 (by decide) ?_
    refine r_lv [] rfl ?_
    exact wk_X5_refused_b24 Z w v3
theorem m_X5_refused (Z : CSp) (w : Wd) (x1 : Int32) : MetM (EC Z) yX5_refused cX5_refused 2 (some .int) { frames := 1, cells := 0, slots := 0, locals := 22 } oIw [Value.ref (aC Z 0), Value.int x1] w (f_X5_refused x1 w) := MetM_of (plainFor_of_name (by decide)) (Nat.le_of_ble_eq_true rfl) (wk_X5_refused Z w x1)
abbrev MX5_sample : Mt := (cX5_sample, RX5, 7, some .int, { frames := 4, cells := 0, slots := 0, locals := 104 })
def f_X5_sample (x1 : Int32) (x2 : Int32) (x3 : Int32) (x4 : Int32) (x5 : Int32) (x6 : Int32) (w : Wd) : Option (Int32 × Wd) :=
  (f_X4_copyFrom 14 10 w).bind (fun w1 => (f_X4_place x1 x2 x3 w1).bind (fun v2 => (f_X4_putSample v2 x4 x5 x6 w1).bind (fun z3 => (f_X5_settle z3.1 z3.2).bind (fun z4 => some (z4.1, z4.2)))))
set_option maxRecDepth 100000 in
set_option maxHeartbeats 4000000 in
theorem wk_X5_sample (Z : CSp) (w : Wd) (x1 : Int32) (x2 : Int32) (x3 : Int32) (x4 : Int32) (x5 : Int32) (x6 : Int32)  : Wm (EC Z) MX5_sample oIw w 0 [(0, Value.ref (aC Z 0)), (1, Value.int x1), (2, Value.int x2), (3, Value.int x3), (4, Value.int x4), (5, Value.int x5), (6, Value.int x6)] [] (f_X5_sample x1 x2 x3 x4 x5 x6 w) := by
  unfold f_X5_sample
  refine r_aload_n dX5_sample_0 0 rfl ?_
  refine r_get FX5 2 (Nat.le_of_ble_eq_true rfl) kf_X5_26 0 (qC_0 Z w) rfl dX5_sample_1 ?_
  refine r_aload_n dX5_sample_4 0 rfl ?_
  refine r_get FX5 1 (Nat.le_of_ble_eq_true rfl) kf_X5_20 0 (qC_0 Z w) rfl dX5_sample_5 ?_
  refine r_callV_Vw [Value.ref (aC Z 10)] cfX4_copyFrom (m_X4_copyFrom_14_10 Z w) km_X5_53 ⟨rfl, rfl, (Nat.le_of_ble_eq_true rfl), (Nat.le_of_ble_eq_true rfl)⟩ rfl rfl 14 (qC_14 Z w) rfl rfl (Nat.le_of_ble_eq_true rfl) dX5_sample_8 (fun w1 => ?_)
  refine r_aload_n dX5_sample_11 0 rfl ?_
  refine r_aload_n dX5_sample_12 0 rfl ?_
  refine r_get FX5 1 (Nat.le_of_ble_eq_true rfl) kf_X5_20 0 (qC_0 Z w1) rfl dX5_sample_13 ?_
  refine r_aload_n dX5_sample_16 0 rfl ?_
  refine r_get FX5 1 (Nat.le_of_ble_eq_true rfl) kf_X5_20 0 (qC_0 Z w1) rfl dX5_sample_17 ?_
  refine r_iload_n dX5_sample_20 1 rfl ?_
  refine r_iload_n dX5_sample_21 2 rfl ?_
  refine r_iload_n dX5_sample_22 3 rfl ?_
  refine r_callV_I [Value.int x1, Value.int x2, Value.int x3] cfX4_place (m_X4_place Z w1 x1 x2 x3) km_X5_71 ⟨rfl, rfl, (Nat.le_of_ble_eq_true rfl), (Nat.le_of_ble_eq_true rfl)⟩ rfl rfl 10 (qC_10 Z w1) rfl rfl (Nat.le_of_ble_eq_true rfl) dX5_sample_23 (fun v2 => ?_)
  refine r_iload dX5_sample_26 4 rfl ?_
  refine r_iload dX5_sample_28 5 rfl ?_
  refine r_iload dX5_sample_30 6 rfl ?_
  refine r_callV_Iw [Value.int v2, Value.int x4, Value.int x5, Value.int x6] cfX4_putSample (m_X4_putSample Z w1 v2 x4 x5 x6) km_X5_75 ⟨rfl, rfl, (Nat.le_of_ble_eq_true rfl), (Nat.le_of_ble_eq_true rfl)⟩ rfl rfl 10 (qC_10 Z w1) rfl rfl (Nat.le_of_ble_eq_true rfl) dX5_sample_32 (fun z3 => ?_)
  refine r_callV_Iw [Value.int z3.1] cfX5_settle (m_X5_settle Z z3.2 z3.1) km_X5_61 ⟨rfl, rfl, (Nat.le_of_ble_eq_true rfl), (Nat.le_of_ble_eq_true rfl)⟩ rfl rfl 0 (qC_0 Z z3.2) rfl rfl (Nat.le_of_ble_eq_true rfl) dX5_sample_35 (fun z4 => ?_)
  exact r_iretw rfl dX5_sample_38
theorem m_X5_sample (Z : CSp) (w : Wd) (x1 : Int32) (x2 : Int32) (x3 : Int32) (x4 : Int32) (x5 : Int32) (x6 : Int32) : MetM (EC Z) yX5_sample cX5_sample 7 (some .int) { frames := 4, cells := 0, slots := 0, locals := 104 } oIw [Value.ref (aC Z 0), Value.int x1, Value.int x2, Value.int x3, Value.int x4, Value.int x5, Value.int x6] w (f_X5_sample x1 x2 x3 x4 x5 x6 w) := MetM_of (plainFor_of_name (by decide)) (Nat.le_of_ble_eq_true rfl) (wk_X5_sample Z w x1 x2 x3 x4 x5 x6)
abbrev MX5_sets : Mt := (cX5_sets, RX5, 3, some .int, { frames := 4, cells := 0, slots := 0, locals := 104 })
def f_X5_sets (x1 : Int32) (x2 : Int32) (w : Wd) : Option (Int32 × Wd) :=
  (f_X4_copyFrom 14 10 w).bind (fun w1 => (f_X4_putSetting x1 x2 w1).bind (fun z2 => (f_X5_settle z2.1 z2.2).bind (fun z3 => some (z3.1, z3.2))))
set_option maxRecDepth 100000 in
set_option maxHeartbeats 4000000 in
theorem wk_X5_sets (Z : CSp) (w : Wd) (x1 : Int32) (x2 : Int32)  : Wm (EC Z) MX5_sets oIw w 0 [(0, Value.ref (aC Z 0)), (1, Value.int x1), (2, Value.int x2)] [] (f_X5_sets x1 x2 w) := by
  unfold f_X5_sets
  refine r_aload_n dX5_sets_0 0 rfl ?_
  refine r_get FX5 2 (Nat.le_of_ble_eq_true rfl) kf_X5_26 0 (qC_0 Z w) rfl dX5_sets_1 ?_
  refine r_aload_n dX5_sets_4 0 rfl ?_
  refine r_get FX5 1 (Nat.le_of_ble_eq_true rfl) kf_X5_20 0 (qC_0 Z w) rfl dX5_sets_5 ?_
  refine r_callV_Vw [Value.ref (aC Z 10)] cfX4_copyFrom (m_X4_copyFrom_14_10 Z w) km_X5_53 ⟨rfl, rfl, (Nat.le_of_ble_eq_true rfl), (Nat.le_of_ble_eq_true rfl)⟩ rfl rfl 14 (qC_14 Z w) rfl rfl (Nat.le_of_ble_eq_true rfl) dX5_sets_8 (fun w1 => ?_)
  refine r_aload_n dX5_sets_11 0 rfl ?_
  refine r_aload_n dX5_sets_12 0 rfl ?_
  refine r_get FX5 1 (Nat.le_of_ble_eq_true rfl) kf_X5_20 0 (qC_0 Z w1) rfl dX5_sets_13 ?_
  refine r_iload_n dX5_sets_16 1 rfl ?_
  refine r_iload_n dX5_sets_17 2 rfl ?_
  refine r_callV_Iw [Value.int x1, Value.int x2] cfX4_putSetting (m_X4_putSetting Z w1 x1 x2) km_X5_68 ⟨rfl, rfl, (Nat.le_of_ble_eq_true rfl), (Nat.le_of_ble_eq_true rfl)⟩ rfl rfl 10 (qC_10 Z w1) rfl rfl (Nat.le_of_ble_eq_true rfl) dX5_sets_18 (fun z2 => ?_)
  refine r_callV_Iw [Value.int z2.1] cfX5_settle (m_X5_settle Z z2.2 z2.1) km_X5_61 ⟨rfl, rfl, (Nat.le_of_ble_eq_true rfl), (Nat.le_of_ble_eq_true rfl)⟩ rfl rfl 0 (qC_0 Z z2.2) rfl rfl (Nat.le_of_ble_eq_true rfl) dX5_sets_21 (fun z3 => ?_)
  exact r_iretw rfl dX5_sets_24
theorem m_X5_sets (Z : CSp) (w : Wd) (x1 : Int32) (x2 : Int32) : MetM (EC Z) yX5_sets cX5_sets 3 (some .int) { frames := 4, cells := 0, slots := 0, locals := 104 } oIw [Value.ref (aC Z 0), Value.int x1, Value.int x2] w (f_X5_sets x1 x2 w) := MetM_of (plainFor_of_name (by decide)) (Nat.le_of_ble_eq_true rfl) (wk_X5_sets Z w x1 x2)
abbrev MX5_shines : Mt := (cX5_shines, RX5, 5, some .int, { frames := 4, cells := 0, slots := 0, locals := 104 })
def f_X5_shines (x1 : Int32) (x2 : Int32) (x3 : Int32) (x4 : Int32) (w : Wd) : Option (Int32 × Wd) :=
  (f_X4_copyFrom 14 10 w).bind (fun w1 => (f_X4_place x1 x2 x3 w1).bind (fun v2 => (f_X4_addLight v2 x4 w1).bind (fun z3 => (f_X5_settle z3.1 z3.2).bind (fun z4 => some (z4.1, z4.2)))))
set_option maxRecDepth 100000 in
set_option maxHeartbeats 4000000 in
theorem wk_X5_shines (Z : CSp) (w : Wd) (x1 : Int32) (x2 : Int32) (x3 : Int32) (x4 : Int32)  : Wm (EC Z) MX5_shines oIw w 0 [(0, Value.ref (aC Z 0)), (1, Value.int x1), (2, Value.int x2), (3, Value.int x3), (4, Value.int x4)] [] (f_X5_shines x1 x2 x3 x4 w) := by
  unfold f_X5_shines
  refine r_aload_n dX5_shines_0 0 rfl ?_
  refine r_get FX5 2 (Nat.le_of_ble_eq_true rfl) kf_X5_26 0 (qC_0 Z w) rfl dX5_shines_1 ?_
  refine r_aload_n dX5_shines_4 0 rfl ?_
  refine r_get FX5 1 (Nat.le_of_ble_eq_true rfl) kf_X5_20 0 (qC_0 Z w) rfl dX5_shines_5 ?_
  refine r_callV_Vw [Value.ref (aC Z 10)] cfX4_copyFrom (m_X4_copyFrom_14_10 Z w) km_X5_53 ⟨rfl, rfl, (Nat.le_of_ble_eq_true rfl), (Nat.le_of_ble_eq_true rfl)⟩ rfl rfl 14 (qC_14 Z w) rfl rfl (Nat.le_of_ble_eq_true rfl) dX5_shines_8 (fun w1 => ?_)
  refine r_aload_n dX5_shines_11 0 rfl ?_
  refine r_aload_n dX5_shines_12 0 rfl ?_
  refine r_get FX5 1 (Nat.le_of_ble_eq_true rfl) kf_X5_20 0 (qC_0 Z w1) rfl dX5_shines_13 ?_
  refine r_aload_n dX5_shines_16 0 rfl ?_
  refine r_get FX5 1 (Nat.le_of_ble_eq_true rfl) kf_X5_20 0 (qC_0 Z w1) rfl dX5_shines_17 ?_
  refine r_iload_n dX5_shines_20 1 rfl ?_
  refine r_iload_n dX5_shines_21 2 rfl ?_
  refine r_iload_n dX5_shines_22 3 rfl ?_
  refine r_callV_I [Value.int x1, Value.int x2, Value.int x3] cfX4_place (m_X4_place Z w1 x1 x2 x3) km_X5_71 ⟨rfl, rfl, (Nat.le_of_ble_eq_true rfl), (Nat.le_of_ble_eq_true rfl)⟩ rfl rfl 10 (qC_10 Z w1) rfl rfl (Nat.le_of_ble_eq_true rfl) dX5_shines_23 (fun v2 => ?_)
  refine r_iload dX5_shines_26 4 rfl ?_
  refine r_callV_Iw [Value.int v2, Value.int x4] cfX4_addLight (m_X4_addLight Z w1 v2 x4) km_X5_82 ⟨rfl, rfl, (Nat.le_of_ble_eq_true rfl), (Nat.le_of_ble_eq_true rfl)⟩ rfl rfl 10 (qC_10 Z w1) rfl rfl (Nat.le_of_ble_eq_true rfl) dX5_shines_28 (fun z3 => ?_)
  refine r_callV_Iw [Value.int z3.1] cfX5_settle (m_X5_settle Z z3.2 z3.1) km_X5_61 ⟨rfl, rfl, (Nat.le_of_ble_eq_true rfl), (Nat.le_of_ble_eq_true rfl)⟩ rfl rfl 0 (qC_0 Z z3.2) rfl rfl (Nat.le_of_ble_eq_true rfl) dX5_shines_31 (fun z4 => ?_)
  exact r_iretw rfl dX5_shines_34
theorem m_X5_shines (Z : CSp) (w : Wd) (x1 : Int32) (x2 : Int32) (x3 : Int32) (x4 : Int32) : MetM (EC Z) yX5_shines cX5_shines 5 (some .int) { frames := 4, cells := 0, slots := 0, locals := 104 } oIw [Value.ref (aC Z 0), Value.int x1, Value.int x2, Value.int x3, Value.int x4] w (f_X5_shines x1 x2 x3 x4 w) := MetM_of (plainFor_of_name (by decide)) (Nat.le_of_ble_eq_true rfl) (wk_X5_shines Z w x1 x2 x3 x4)
abbrev MX5_told : Mt := (cX5_told, RX5, 2, some .int, { frames := 2, cells := 0, slots := 0, locals := 44 })
def f_X5_told_b28 (s0 : Int32) (w : Wd) : Option (Int32 × Wd) :=
  some (s0, w)
set_option maxRecDepth 100000 in
set_option maxHeartbeats 4000000 in
theorem wk_X5_told_b28 (Z : CSp) (w : Wd) (s0 : Int32)  : Wm (EC Z) MX5_told oIw w 28 [] [Value.int s0] (f_X5_told_b28 s0 w) := by
  unfold f_X5_told_b28
  exact r_iretw rfl dX5_told_28
def f_X5_told (x1 : Int32) (w : Wd) : Option (Int32 × Wd) :=
  (f_X5_within x1 (0 : Int32) (10 : Int32)).bind (fun v1 => if v1 = 0 then ((f_X5_refuse (-10002 : Int32) w).bind (fun z2 => f_X5_told_b28 z2.1 z2.2)) else ((f_X4_setting x1 w).bind (fun v3 => f_X5_told_b28 v3 w)))
set_option maxRecDepth 100000 in
set_option maxHeartbeats 4000000 in
theorem wk_X5_told (Z : CSp) (w : Wd) (x1 : Int32)  : Wm (EC Z) MX5_told oIw w 0 [(0, Value.ref (aC Z 0)), (1, Value.int x1)] [] (f_X5_told x1 w) := by
  unfold f_X5_told
  refine r_iload_n dX5_told_0 1 rfl ?_
  refine r_iconst (v := 0) dX5_told_1 (by decide) ?_
  refine r_bipush (v := 10) dX5_told_2 (by decide) ?_
  refine r_callS_I [Value.int x1, Value.int (0 : Int32), Value.int (10 : Int32)] cfX5_within (m_X5_within Z w x1 (0 : Int32) (10 : Int32)) km_X5_88 ⟨rfl, rfl, (Nat.le_of_ble_eq_true rfl), (Nat.le_of_ble_eq_true rfl)⟩ rfl rfl (Nat.le_of_ble_eq_true rfl) dX5_told_4 (fun v1 => ?_)
  refine r_if_eq (tgt := 21) dX5_told_7 (by decide) (fun _ => ?_) (fun _ => ?_)
  · refine r_aload_n dX5_told_21 0 rfl ?_
    refine r_sipush (v := -10002) dX5_told_22 (by decide) ?_
    refine r_callV_Iw [Value.int (-10002 : Int32)] cfX5_refuse (m_X5_refuse Z w (-10002 : Int32)) km_X5_92 ⟨rfl, rfl, (Nat.le_of_ble_eq_true rfl), (Nat.le_of_ble_eq_true rfl)⟩ rfl rfl 0 (qC_0 Z w) rfl rfl (Nat.le_of_ble_eq_true rfl) dX5_told_25 (fun z2 => ?_)
    refine r_lv [] rfl ?_
    exact wk_X5_told_b28 Z z2.2 z2.1
  · refine r_aload_n dX5_told_10 0 rfl ?_
    refine r_get FX5 1 (Nat.le_of_ble_eq_true rfl) kf_X5_20 0 (qC_0 Z w) rfl dX5_told_11 ?_
    refine r_iload_n dX5_told_14 1 rfl ?_
    refine r_callV_I [Value.int x1] cfX4_setting (m_X4_setting Z w x1) km_X5_172 ⟨rfl, rfl, (Nat.le_of_ble_eq_true rfl), (Nat.le_of_ble_eq_true rfl)⟩ rfl rfl 10 (qC_10 Z w) rfl rfl (Nat.le_of_ble_eq_true rfl) dX5_told_15 (fun v3 => ?_)
    refine r_goto (tgt := 28) dX5_told_18 (by decide) ?_
    refine r_lv [] rfl ?_
    exact wk_X5_told_b28 Z w v3
theorem m_X5_told (Z : CSp) (w : Wd) (x1 : Int32) : MetM (EC Z) yX5_told cX5_told 2 (some .int) { frames := 2, cells := 0, slots := 0, locals := 44 } oIw [Value.ref (aC Z 0), Value.int x1] w (f_X5_told x1 w) := MetM_of (plainFor_of_name (by decide)) (Nat.le_of_ble_eq_true rfl) (wk_X5_told Z w x1)
abbrev MX5_type : Mt := (cX5_type, RX5, 2, some .int, { frames := 1, cells := 0, slots := 0, locals := 22 })
def f_X5_type_b46 (s0 : Int32) (w : Wd) : Option (Int32 × Wd) :=
  some (s0, w)
set_option maxRecDepth 100000 in
set_option maxHeartbeats 4000000 in
theorem wk_X5_type_b46 (Z : CSp) (w : Wd) (s0 : Int32)  : Wm (EC Z) MX5_type oIw w 46 [] [Value.int s0] (f_X5_type_b46 s0 w) := by
  unfold f_X5_type_b46
  exact r_iretw rfl dX5_type_46
def f_X5_type (x1 : Int32) (w : Wd) : Option (Int32 × Wd) :=
  (f_X5_within x1 (0 : Int32) (127 : Int32)).bind (fun v1 => if v1 = 0 then ((f_X5_refuse (-10002 : Int32) w).bind (fun z4 => some (z4.1, z4.2))) else ((f_X1_append x1 w).bind (fun z2 => if z2.1 = 0 then ((f_X5_refuse (-10004 : Int32) z2.2).bind (fun z3 => f_X5_type_b46 z3.1 z3.2)) else (f_X5_type_b46 (z2.2.1 6 1) z2.2))))
set_option maxRecDepth 100000 in
set_option maxHeartbeats 4000000 in
theorem wk_X5_type (Z : CSp) (w : Wd) (x1 : Int32)  : Wm (EC Z) MX5_type oIw w 0 [(0, Value.ref (aC Z 0)), (1, Value.int x1)] [] (f_X5_type x1 w) := by
  unfold f_X5_type
  refine r_iload_n dX5_type_0 1 rfl ?_
  refine r_iconst (v := 0) dX5_type_1 (by decide) ?_
  refine r_bipush (v := 127) dX5_type_2 (by decide) ?_
  refine r_callS_I [Value.int x1, Value.int (0 : Int32), Value.int (127 : Int32)] cfX5_within (m_X5_within Z w x1 (0 : Int32) (127 : Int32)) km_X5_88 ⟨rfl, rfl, (Nat.le_of_ble_eq_true rfl), (Nat.le_of_ble_eq_true rfl)⟩ rfl rfl (Nat.le_of_ble_eq_true rfl) dX5_type_4 (fun v1 => ?_)
  refine r_if_ne (tgt := 18) dX5_type_7 (by decide) (fun _ => ?_) (fun _ => ?_)
  · refine r_aload_n dX5_type_18 0 rfl ?_
    refine r_get FX5 5 (Nat.le_of_ble_eq_true rfl) kf_X5_40 0 (qC_0 Z w) rfl dX5_type_19 ?_
    refine r_iload_n dX5_type_22 1 rfl ?_
    refine r_callV_Iw [Value.int x1] cfX1_append (m_X1_append Z w x1) km_X5_175 ⟨rfl, rfl, (Nat.le_of_ble_eq_true rfl), (Nat.le_of_ble_eq_true rfl)⟩ rfl rfl 6 (qC_6 Z w) rfl rfl (Nat.le_of_ble_eq_true rfl) dX5_type_23 (fun z2 => ?_)
    refine r_if_eq (tgt := 39) dX5_type_26 (by decide) (fun _ => ?_) (fun _ => ?_)
    · refine r_aload_n dX5_type_39 0 rfl ?_
      refine r_sipush (v := -10004) dX5_type_40 (by decide) ?_
      refine r_callV_Iw [Value.int (-10004 : Int32)] cfX5_refuse (m_X5_refuse Z z2.2 (-10004 : Int32)) km_X5_92 ⟨rfl, rfl, (Nat.le_of_ble_eq_true rfl), (Nat.le_of_ble_eq_true rfl)⟩ rfl rfl 0 (qC_0 Z z2.2) rfl rfl (Nat.le_of_ble_eq_true rfl) dX5_type_43 (fun z3 => ?_)
      refine r_lv [] rfl ?_
      exact wk_X5_type_b46 Z z3.2 z3.1
    · refine r_aload_n dX5_type_29 0 rfl ?_
      refine r_get FX5 5 (Nat.le_of_ble_eq_true rfl) kf_X5_40 0 (qC_0 Z z2.2) rfl dX5_type_30 ?_
      refine r_get FX1 1 (Nat.le_of_ble_eq_true rfl) kf_X5_179 6 (qC_6 Z z2.2) rfl dX5_type_33 ?_
      refine r_goto (tgt := 46) dX5_type_36 (by decide) ?_
      refine r_lv [] rfl ?_
      exact wk_X5_type_b46 Z z2.2 (z2.2.1 6 1)
  · refine r_aload_n dX5_type_10 0 rfl ?_
    refine r_sipush (v := -10002) dX5_type_11 (by decide) ?_
    refine r_callV_Iw [Value.int (-10002 : Int32)] cfX5_refuse (m_X5_refuse Z w (-10002 : Int32)) km_X5_92 ⟨rfl, rfl, (Nat.le_of_ble_eq_true rfl), (Nat.le_of_ble_eq_true rfl)⟩ rfl rfl 0 (qC_0 Z w) rfl rfl (Nat.le_of_ble_eq_true rfl) dX5_type_14 (fun z4 => ?_)
    exact r_iretw rfl dX5_type_17
theorem m_X5_type (Z : CSp) (w : Wd) (x1 : Int32) : MetM (EC Z) yX5_type cX5_type 2 (some .int) { frames := 1, cells := 0, slots := 0, locals := 22 } oIw [Value.ref (aC Z 0), Value.int x1] w (f_X5_type x1 w) := MetM_of (plainFor_of_name (by decide)) (Nat.le_of_ble_eq_true rfl) (wk_X5_type Z w x1)
abbrev MX5_wave : Mt := (cX5_wave, RX5, 3, some .int, { frames := 4, cells := 0, slots := 0, locals := 104 })
def f_X5_wave (x1 : Int32) (x2 : Int32) (w : Wd) : Option (Int32 × Wd) :=
  (f_X4_copyFrom 14 10 w).bind (fun w1 => (f_X4_putWave x1 x2 w1).bind (fun z2 => (f_X5_settle z2.1 z2.2).bind (fun z3 => some (z3.1, z3.2))))
set_option maxRecDepth 100000 in
set_option maxHeartbeats 4000000 in
theorem wk_X5_wave (Z : CSp) (w : Wd) (x1 : Int32) (x2 : Int32)  : Wm (EC Z) MX5_wave oIw w 0 [(0, Value.ref (aC Z 0)), (1, Value.int x1), (2, Value.int x2)] [] (f_X5_wave x1 x2 w) := by
  unfold f_X5_wave
  refine r_aload_n dX5_wave_0 0 rfl ?_
  refine r_get FX5 2 (Nat.le_of_ble_eq_true rfl) kf_X5_26 0 (qC_0 Z w) rfl dX5_wave_1 ?_
  refine r_aload_n dX5_wave_4 0 rfl ?_
  refine r_get FX5 1 (Nat.le_of_ble_eq_true rfl) kf_X5_20 0 (qC_0 Z w) rfl dX5_wave_5 ?_
  refine r_callV_Vw [Value.ref (aC Z 10)] cfX4_copyFrom (m_X4_copyFrom_14_10 Z w) km_X5_53 ⟨rfl, rfl, (Nat.le_of_ble_eq_true rfl), (Nat.le_of_ble_eq_true rfl)⟩ rfl rfl 14 (qC_14 Z w) rfl rfl (Nat.le_of_ble_eq_true rfl) dX5_wave_8 (fun w1 => ?_)
  refine r_aload_n dX5_wave_11 0 rfl ?_
  refine r_aload_n dX5_wave_12 0 rfl ?_
  refine r_get FX5 1 (Nat.le_of_ble_eq_true rfl) kf_X5_20 0 (qC_0 Z w1) rfl dX5_wave_13 ?_
  refine r_iload_n dX5_wave_16 1 rfl ?_
  refine r_iload_n dX5_wave_17 2 rfl ?_
  refine r_callV_Iw [Value.int x1, Value.int x2] cfX4_putWave (m_X4_putWave Z w1 x1 x2) km_X5_65 ⟨rfl, rfl, (Nat.le_of_ble_eq_true rfl), (Nat.le_of_ble_eq_true rfl)⟩ rfl rfl 10 (qC_10 Z w1) rfl rfl (Nat.le_of_ble_eq_true rfl) dX5_wave_18 (fun z2 => ?_)
  refine r_callV_Iw [Value.int z2.1] cfX5_settle (m_X5_settle Z z2.2 z2.1) km_X5_61 ⟨rfl, rfl, (Nat.le_of_ble_eq_true rfl), (Nat.le_of_ble_eq_true rfl)⟩ rfl rfl 0 (qC_0 Z z2.2) rfl rfl (Nat.le_of_ble_eq_true rfl) dX5_wave_21 (fun z3 => ?_)
  exact r_iretw rfl dX5_wave_24
theorem m_X5_wave (Z : CSp) (w : Wd) (x1 : Int32) (x2 : Int32) : MetM (EC Z) yX5_wave cX5_wave 3 (some .int) { frames := 4, cells := 0, slots := 0, locals := 104 } oIw [Value.ref (aC Z 0), Value.int x1, Value.int x2] w (f_X5_wave x1 x2 w) := MetM_of (plainFor_of_name (by decide)) (Nat.le_of_ble_eq_true rfl) (wk_X5_wave Z w x1 x2)
abbrev MX5_wraps : Mt := (cX5_wraps, RX5, 7, some .int, { frames := 6, cells := 0, slots := 0, locals := 142 })
def f_X5_wraps_b65 (w : Wd) : Option (Int32 × Wd) :=
  (f_X5_refuse (-10003 : Int32) w).bind (fun z2 => some (z2.1, z2.2))
set_option maxRecDepth 100000 in
set_option maxHeartbeats 4000000 in
theorem wk_X5_wraps_b65 (Z : CSp) (w : Wd)   : Wm (EC Z) MX5_wraps oIw w 65 [(0, Value.ref (aC Z 0))] [] (f_X5_wraps_b65 w) := by
  unfold f_X5_wraps_b65
  refine r_aload_n dX5_wraps_65 0 rfl ?_
  refine r_sipush (v := -10003) dX5_wraps_66 (by decide) ?_
  refine r_callV_Iw [Value.int (-10003 : Int32)] cfX5_refuse (m_X5_refuse Z w (-10003 : Int32)) km_X5_92 ⟨rfl, rfl, (Nat.le_of_ble_eq_true rfl), (Nat.le_of_ble_eq_true rfl)⟩ rfl rfl 0 (qC_0 Z w) rfl rfl (Nat.le_of_ble_eq_true rfl) dX5_wraps_69 (fun z2 => ?_)
  exact r_iretw rfl dX5_wraps_72
def f_X5_wraps_b27 (w : Wd) : Option (Int32 × Wd) :=
  (f_X5_refuse (-10002 : Int32) w).bind (fun z2 => some (z2.1, z2.2))
set_option maxRecDepth 100000 in
set_option maxHeartbeats 4000000 in
theorem wk_X5_wraps_b27 (Z : CSp) (w : Wd)   : Wm (EC Z) MX5_wraps oIw w 27 [(0, Value.ref (aC Z 0))] [] (f_X5_wraps_b27 w) := by
  unfold f_X5_wraps_b27
  refine r_aload_n dX5_wraps_27 0 rfl ?_
  refine r_sipush (v := -10002) dX5_wraps_28 (by decide) ?_
  refine r_callV_Iw [Value.int (-10002 : Int32)] cfX5_refuse (m_X5_refuse Z w (-10002 : Int32)) km_X5_92 ⟨rfl, rfl, (Nat.le_of_ble_eq_true rfl), (Nat.le_of_ble_eq_true rfl)⟩ rfl rfl 0 (qC_0 Z w) rfl rfl (Nat.le_of_ble_eq_true rfl) dX5_wraps_31 (fun z2 => ?_)
  exact r_iretw rfl dX5_wraps_34
def f_X5_wraps (x1 : Int32) (x2 : Int32) (x3 : Int32) (x4 : Int32) (w : Wd) : Option (Int32 × Wd) :=
  (f_X4_place x1 x2 x3 w).bind (fun v1 => if v1 < 0 then (f_X5_wraps_b27 w) else ((f_X5_within x4 (0 : Int32) (2 : Int32)).bind (fun v2 => if v2 = 0 then (f_X5_wraps_b27 w) else (if inb x4 3 = true then (jlet (w.1 11 (x4).toNatClampNeg) (fun y3 => (f_X2_markOf v1 w).bind (fun z4 => if z4.1 = 0 then (if (1 : Int32) ≤ y3 then ((f_X2_distanceOf v1 z4.2).bind (fun z5 => if ¬ y3 = 0 then (some ((z5.1 / y3), z5.2)) else none)) else (f_X5_wraps_b65 z4.2)) else (f_X5_wraps_b65 z4.2)))) else none))))
set_option maxRecDepth 100000 in
set_option maxHeartbeats 4000000 in
theorem wk_X5_wraps (Z : CSp) (w : Wd) (x1 : Int32) (x2 : Int32) (x3 : Int32) (x4 : Int32)  : Wm (EC Z) MX5_wraps oIw w 0 [(0, Value.ref (aC Z 0)), (1, Value.int x1), (2, Value.int x2), (3, Value.int x3), (4, Value.int x4)] [] (f_X5_wraps x1 x2 x3 x4 w) := by
  unfold f_X5_wraps
  refine r_aload_n dX5_wraps_0 0 rfl ?_
  refine r_get FX5 1 (Nat.le_of_ble_eq_true rfl) kf_X5_20 0 (qC_0 Z w) rfl dX5_wraps_1 ?_
  refine r_iload_n dX5_wraps_4 1 rfl ?_
  refine r_iload_n dX5_wraps_5 2 rfl ?_
  refine r_iload_n dX5_wraps_6 3 rfl ?_
  refine r_callV_I [Value.int x1, Value.int x2, Value.int x3] cfX4_place (m_X4_place Z w x1 x2 x3) km_X5_71 ⟨rfl, rfl, (Nat.le_of_ble_eq_true rfl), (Nat.le_of_ble_eq_true rfl)⟩ rfl rfl 10 (qC_10 Z w) rfl rfl (Nat.le_of_ble_eq_true rfl) dX5_wraps_7 (fun v1 => ?_)
  refine r_istore (lv' := [(0, Value.ref (aC Z 0)), (1, Value.int x1), (2, Value.int x2), (3, Value.int x3), (4, Value.int x4), (5, Value.int v1)]) dX5_wraps_10 (Nat.le_of_ble_eq_true rfl) [1, 2, 3, 4, 5, 0] rfl ?_
  refine r_iload dX5_wraps_12 5 rfl ?_
  refine r_if_lt (tgt := 27) dX5_wraps_14 (by decide) (fun _ => ?_) (fun _ => ?_)
  · refine r_lv [0] rfl ?_
    exact wk_X5_wraps_b27 Z w
  · refine r_iload dX5_wraps_17 4 rfl ?_
    refine r_iconst (v := 0) dX5_wraps_19 (by decide) ?_
    refine r_iconst (v := 2) dX5_wraps_20 (by decide) ?_
    refine r_callS_I [Value.int x4, Value.int (0 : Int32), Value.int (2 : Int32)] cfX5_within (m_X5_within Z w x4 (0 : Int32) (2 : Int32)) km_X5_88 ⟨rfl, rfl, (Nat.le_of_ble_eq_true rfl), (Nat.le_of_ble_eq_true rfl)⟩ rfl rfl (Nat.le_of_ble_eq_true rfl) dX5_wraps_21 (fun v2 => ?_)
    refine r_if_ne (tgt := 35) dX5_wraps_24 (by decide) (fun _ => ?_) (fun _ => ?_)
    · refine r_aload_n dX5_wraps_35 0 rfl ?_
      refine r_get FX5 1 (Nat.le_of_ble_eq_true rfl) kf_X5_20 0 (qC_0 Z w) rfl dX5_wraps_36 ?_
      refine r_get FX4 2 (Nat.le_of_ble_eq_true rfl) kf_X5_109 10 (qC_10 Z w) rfl dX5_wraps_39 ?_
      refine r_iload dX5_wraps_42 4 rfl ?_
      refine r_iald 11 (qC_11 Z w) rfl dX5_wraps_44 ?_
      refine r_leti (fun y3 => ?_)
      refine r_istore (lv' := [(0, Value.ref (aC Z 0)), (1, Value.int x1), (2, Value.int x2), (3, Value.int x3), (4, Value.int x4), (5, Value.int v1), (6, Value.int y3)]) dX5_wraps_45 (Nat.le_of_ble_eq_true rfl) [1, 2, 3, 4, 5, 6, 0] rfl ?_
      refine r_aload_n dX5_wraps_47 0 rfl ?_
      refine r_get FX5 0 (Nat.le_of_ble_eq_true rfl) kf_X5_12 0 (qC_0 Z w) rfl dX5_wraps_48 ?_
      refine r_iload dX5_wraps_51 5 rfl ?_
      refine r_callV_Iw [Value.int v1] cfX2_markOf (m_X2_markOf Z w v1) km_X5_129 ⟨rfl, rfl, (Nat.le_of_ble_eq_true rfl), (Nat.le_of_ble_eq_true rfl)⟩ rfl rfl 1 (qC_1 Z w) rfl rfl (Nat.le_of_ble_eq_true rfl) dX5_wraps_53 (fun z4 => ?_)
      refine r_if_ne (tgt := 65) dX5_wraps_56 (by decide) (fun _ => ?_) (fun _ => ?_)
      · refine r_lv [0] rfl ?_
        exact wk_X5_wraps_b65 Z z4.2
      · refine r_iload dX5_wraps_59 6 rfl ?_
        refine r_iconst (v := 1) dX5_wraps_61 (by decide) ?_
        refine r_icmp_ge (tgt := 73) dX5_wraps_62 (by decide) (fun _ => ?_) (fun _ => ?_)
        · refine r_aload_n dX5_wraps_73 0 rfl ?_
          refine r_get FX5 0 (Nat.le_of_ble_eq_true rfl) kf_X5_12 0 (qC_0 Z z4.2) rfl dX5_wraps_74 ?_
          refine r_iload dX5_wraps_77 5 rfl ?_
          refine r_callV_Iw [Value.int v1] cfX2_distanceOf (m_X2_distanceOf Z z4.2 v1) km_X5_132 ⟨rfl, rfl, (Nat.le_of_ble_eq_true rfl), (Nat.le_of_ble_eq_true rfl)⟩ rfl rfl 1 (qC_1 Z z4.2) rfl rfl (Nat.le_of_ble_eq_true rfl) dX5_wraps_79 (fun z5 => ?_)
          refine r_iload dX5_wraps_82 6 rfl ?_
          refine r_idiv dX5_wraps_84 ?_
          exact r_iretw rfl dX5_wraps_85
        · refine r_lv [0] rfl ?_
          exact wk_X5_wraps_b65 Z z4.2
    · refine r_lv [0] rfl ?_
      exact wk_X5_wraps_b27 Z w
theorem m_X5_wraps (Z : CSp) (w : Wd) (x1 : Int32) (x2 : Int32) (x3 : Int32) (x4 : Int32) : MetM (EC Z) yX5_wraps cX5_wraps 7 (some .int) { frames := 6, cells := 0, slots := 0, locals := 142 } oIw [Value.ref (aC Z 0), Value.int x1, Value.int x2, Value.int x3, Value.int x4] w (f_X5_wraps x1 x2 x3 x4 w) := MetM_of (plainFor_of_name (by decide)) (Nat.le_of_ble_eq_true rfl) (wk_X5_wraps Z w x1 x2 x3 x4)
