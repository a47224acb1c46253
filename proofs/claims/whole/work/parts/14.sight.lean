abbrev MX2_misfit : Mt := (cX2_misfit, RX2, 6, some .int, { frames := 1, cells := 0, slots := 0, locals := 23 })
def f_X2_misfit_b48 (x1 : Int32) (x2 : Int32) (x3 : Int32) (x4 : Int32) (k5 : Int32 → Int32 → Option (Int32)) (w : Wd) : Option (Int32) :=
  k5 x3 (x4 + 1)
set_option maxRecDepth 100000 in
set_option maxHeartbeats 4000000 in
theorem wk_X2_misfit_b48 (Z : CSp) (w : Wd) (x1 : Int32) (x2 : Int32) (x3 : Int32) (x4 : Int32) (k5 : Int32 → Int32 → Option (Int32)) (hk5 : ∀ (x3 : Int32) (x4 : Int32), Wm (EC Z) MX2_misfit (oI w) w 5 [(0, Value.ref (aC Z 1)), (1, Value.int x1), (2, Value.int x2), (3, Value.int x3), (4, Value.int x4)] [] (k5 x3 x4)) : Wm (EC Z) MX2_misfit (oI w) w 48 [(0, Value.ref (aC Z 1)), (1, Value.int x1), (2, Value.int x2), (3, Value.int x3), (4, Value.int x4)] [] (f_X2_misfit_b48 x1 x2 x3 x4 k5 w) := by
  unfold f_X2_misfit_b48
  refine r_iinc (lv' := [(0, Value.ref (aC Z 1)), (1, Value.int x1), (2, Value.int x2), (3, Value.int x3), (4, Value.int (x4 + 1))]) dX2_misfit_48 4 rfl (by rfl) (Nat.le_of_ble_eq_true rfl) [1, 2, 3, 4, 0] rfl ?_
  refine r_goto (tgt := 5) dX2_misfit_51 (by decide) ?_
  exact hk5 x3 (x4 + 1)
def f_X2_misfit_b5 (x1 : Int32) (x2 : Int32) (w : Wd) : Nat → Int32 → Int32 → Option (Int32)
  | 0, _, _ => none
  | n + 1, x3, x4 =>
  if (3 : Int32) ≤ x4 then (some x3) else (if x4 = x2 then (f_X2_misfit_b48 x1 x2 x3 x4 (f_X2_misfit_b5 x1 x2 w n) w) else (if inb x4 3 = true then (if inb x4 3 = true then ((f_X3_awayFrom x1 (w.1 5 (x4).toNatClampNeg) (w.1 11 (x4).toNatClampNeg)).bind (fun v3 => jlet (x3 + (v3 * v3)) (fun y4 => f_X2_misfit_b48 x1 x2 y4 x4 (f_X2_misfit_b5 x1 x2 w n) w))) else none) else none))
set_option maxRecDepth 100000 in
set_option maxHeartbeats 4000000 in
theorem wk_X2_misfit_b5 (Z : CSp) (w : Wd) (x1 : Int32) (x2 : Int32)  : ∀ (n : Nat) (x3 : Int32) (x4 : Int32), Wm (EC Z) MX2_misfit (oI w) w 5 [(0, Value.ref (aC Z 1)), (1, Value.int x1), (2, Value.int x2), (3, Value.int x3), (4, Value.int x4)] [] (f_X2_misfit_b5 x1 x2 w n x3 x4) := by
  intro n
  induction n with
  | zero =>
    intro x3 x4
    exact r_none
  | succ n ih =>
    intro x3 x4
    rw [f_X2_misfit_b5]
    refine r_iload dX2_misfit_5 4 rfl ?_
    refine r_iconst (v := 3) dX2_misfit_7 (by decide) ?_
    refine r_icmp_ge (tgt := 54) dX2_misfit_8 (by decide) (fun _ => ?_) (fun _ => ?_)
    · refine r_iload_n dX2_misfit_54 3 rfl ?_
      exact r_iret rfl dX2_misfit_55
    · refine r_iload dX2_misfit_11 4 rfl ?_
      refine r_iload_n dX2_misfit_13 2 rfl ?_
      refine r_icmp_eq (tgt := 48) dX2_misfit_14 (by decide) (fun _ => ?_) (fun _ => ?_)
      · exact wk_X2_misfit_b48 Z w x1 x2 x3 x4 _ (ih)
      · refine r_iload_n dX2_misfit_17 1 rfl ?_
        refine r_aload_n dX2_misfit_18 0 rfl ?_
        refine r_get FX2 4 (Nat.le_of_ble_eq_true rfl) kf_X2_28 1 (qC_1 Z w) rfl dX2_misfit_19 ?_
        refine r_iload dX2_misfit_22 4 rfl ?_
        refine r_iald 5 (qC_5 Z w) rfl dX2_misfit_24 ?_
        refine r_aload_n dX2_misfit_25 0 rfl ?_
        refine r_get FX2 0 (Nat.le_of_ble_eq_true rfl) kf_X2_12 1 (qC_1 Z w) rfl dX2_misfit_26 ?_
        refine r_get FX4 2 (Nat.le_of_ble_eq_true rfl) kf_X2_64 10 (qC_10 Z w) rfl dX2_misfit_29 ?_
        refine r_iload dX2_misfit_32 4 rfl ?_
        refine r_iald 11 (qC_11 Z w) rfl dX2_misfit_34 ?_
        refine r_callS_I [Value.int x1, Value.int (w.1 5 (x4).toNatClampNeg), Value.int (w.1 11 (x4).toNatClampNeg)] cfX3_awayFrom (m_X3_awayFrom Z w x1 (w.1 5 (x4).toNatClampNeg) (w.1 11 (x4).toNatClampNeg)) km_X2_112 ⟨rfl, rfl, (Nat.le_of_ble_eq_true rfl), (Nat.le_of_ble_eq_true rfl)⟩ rfl rfl (Nat.le_of_ble_eq_true rfl) dX2_misfit_35 (fun v3 => ?_)
        refine r_istore (lv' := [(0, Value.ref (aC Z 1)), (1, Value.int x1), (2, Value.int x2), (3, Value.int x3), (4, Value.int x4), (5, Value.int v3)]) dX2_misfit_38 (Nat.le_of_ble_eq_true rfl) [1, 2, 3, 4, 5, 0] rfl ?_
        refine r_iload_n dX2_misfit_40 3 rfl ?_
        refine r_iload dX2_misfit_41 5 rfl ?_
        refine r_iload dX2_misfit_43 5 rfl ?_
        refine r_imul dX2_misfit_45 ?_
        refine r_iadd dX2_misfit_46 ?_
        refine r_leti (fun y4 => ?_)
        refine r_istore_n (lv' := [(0, Value.ref (aC Z 1)), (1, Value.int x1), (2, Value.int x2), (3, Value.int y4), (4, Value.int x4), (5, Value.int v3)]) dX2_misfit_47 (Nat.le_of_ble_eq_true rfl) [1, 2, 3, 0, 4, 5] rfl ?_
        refine r_lv [0, 1, 2, 3, 4] rfl ?_
        exact wk_X2_misfit_b48 Z w x1 x2 y4 x4 _ (ih)
def f_X2_misfit (x1 : Int32) (x2 : Int32) (w : Wd) : Option (Int32) :=
  f_X2_misfit_b5 x1 x2 w FUEL (0 : Int32) (0 : Int32)
set_option maxRecDepth 100000 in
set_option maxHeartbeats 4000000 in
theorem wk_X2_misfit (Z : CSp) (w : Wd) (x1 : Int32) (x2 : Int32)  : Wm (EC Z) MX2_misfit (oI w) w 0 [(0, Value.ref (aC Z 1)), (1, Value.int x1), (2, Value.int x2)] [] (f_X2_misfit x1 x2 w) := by
  unfold f_X2_misfit
  refine r_iconst (v := 0) dX2_misfit_0 (by decide) ?_
  refine r_istore_n (lv' := [(0, Value.ref (aC Z 1)), (1, Value.int x1), (2, Value.int x2), (3, Value.int (0 : Int32))]) dX2_misfit_1 (Nat.le_of_ble_eq_true rfl) [1, 2, 3, 0] rfl ?_
  refine r_iconst (v := 0) dX2_misfit_2 (by decide) ?_
  refine r_istore (lv' := [(0, Value.ref (aC Z 1)), (1, Value.int x1), (2, Value.int x2), (3, Value.int (0 : Int32)), (4, Value.int (0 : Int32))]) dX2_misfit_3 (Nat.le_of_ble_eq_true rfl) [1, 2, 3, 4, 0] rfl ?_
  exact wk_X2_misfit_b5 Z w x1 x2 FUEL (0 : Int32) (0 : Int32)
theorem m_X2_misfit (Z : CSp) (w : Wd) (x1 : Int32) (x2 : Int32) : MetM (EC Z) yX2_misfit cX2_misfit 6 (some .int) { frames := 1, cells := 0, slots := 0, locals := 23 } (oI w) [Value.ref (aC Z 1), Value.int x1, Value.int x2] w (f_X2_misfit x1 x2 w) := MetM_of (plainFor_of_name (by decide)) (Nat.le_of_ble_eq_true rfl) (wk_X2_misfit Z w x1 x2)
abbrev MX2_widestGap : Mt := (cX2_widestGap, RX2, 5, some .int, { frames := 1, cells := 0, slots := 0, locals := 25 })
def f_X2_widestGap_b52 (x1 : Int32) (x2 : Int32) (x3 : Int32) (x4 : Int32) (k5 : Int32 → Int32 → Option (Int32)) (w : Wd) : Option (Int32) :=
  k5 x3 (x4 + 1)
set_option maxRecDepth 100000 in
set_option maxHeartbeats 4000000 in
theorem wk_X2_widestGap_b52 (Z : CSp) (w : Wd) (x1 : Int32) (x2 : Int32) (x3 : Int32) (x4 : Int32) (k5 : Int32 → Int32 → Option (Int32)) (hk5 : ∀ (x3 : Int32) (x4 : Int32), Wm (EC Z) MX2_widestGap (oI w) w 5 [(0, Value.ref (aC Z 1)), (1, Value.int x1), (2, Value.int x2), (3, Value.int x3), (4, Value.int x4)] [] (k5 x3 x4)) : Wm (EC Z) MX2_widestGap (oI w) w 52 [(0, Value.ref (aC Z 1)), (1, Value.int x1), (2, Value.int x2), (3, Value.int x3), (4, Value.int x4)] [] (f_X2_widestGap_b52 x1 x2 x3 x4 k5 w) := by
  unfold f_X2_widestGap_b52
  refine r_iinc (lv' := [(0, Value.ref (aC Z 1)), (1, Value.int x1), (2, Value.int x2), (3, Value.int x3), (4, Value.int (x4 + 1))]) dX2_widestGap_52 4 rfl (by rfl) (Nat.le_of_ble_eq_true rfl) [1, 2, 3, 4, 0] rfl ?_
  refine r_goto (tgt := 5) dX2_widestGap_55 (by decide) ?_
  exact hk5 x3 (x4 + 1)
def f_X2_widestGap_b5 (x1 : Int32) (x2 : Int32) (w : Wd) : Nat → Int32 → Int32 → Option (Int32)
  | 0, _, _ => none
  | n + 1, x3, x4 =>
  if (3 : Int32) ≤ x4 then (some x3) else (if x4 = x2 then (f_X2_widestGap_b52 x1 x2 x3 x4 (f_X2_widestGap_b5 x1 x2 w n) w) else (if inb x4 3 = true then (if inb x4 3 = true then (if inb (0 : Int32) 6 = true then ((f_X3_gap x1 (w.1 5 (x4).toNatClampNeg) (w.1 11 (x4).toNatClampNeg) (w.1 12 ((0 : Int32)).toNatClampNeg)).bind (fun v3 => jlet (if x3 < v3 then v3 else x3) (fun y4 => f_X2_widestGap_b52 x1 x2 y4 x4 (f_X2_widestGap_b5 x1 x2 w n) w))) else none) else none) else none))
set_option maxRecDepth 100000 in
set_option maxHeartbeats 4000000 in
theorem wk_X2_widestGap_b5 (Z : CSp) (w : Wd) (x1 : Int32) (x2 : Int32)  : ∀ (n : Nat) (x3 : Int32) (x4 : Int32), Wm (EC Z) MX2_widestGap (oI w) w 5 [(0, Value.ref (aC Z 1)), (1, Value.int x1), (2, Value.int x2), (3, Value.int x3), (4, Value.int x4)] [] (f_X2_widestGap_b5 x1 x2 w n x3 x4) := by
  intro n
  induction n with
  | zero =>
    intro x3 x4
    exact r_none
  | succ n ih =>
    intro x3 x4
    rw [f_X2_widestGap_b5]
    refine r_iload dX2_widestGap_5 4 rfl ?_
    refine r_iconst (v := 3) dX2_widestGap_7 (by decide) ?_
    refine r_icmp_ge (tgt := 58) dX2_widestGap_8 (by decide) (fun _ => ?_) (fun _ => ?_)
    · refine r_iload_n dX2_widestGap_58 3 rfl ?_
      exact r_iret rfl dX2_widestGap_59
    · refine r_iload dX2_widestGap_11 4 rfl ?_
      refine r_iload_n dX2_widestGap_13 2 rfl ?_
      refine r_icmp_eq (tgt := 52) dX2_widestGap_14 (by decide) (fun _ => ?_) (fun _ => ?_)
      · exact wk_X2_widestGap_b52 Z w x1 x2 x3 x4 _ (ih)
      · refine r_iload_n dX2_widestGap_17 3 rfl ?_
        refine r_iload_n dX2_widestGap_18 1 rfl ?_
        refine r_aload_n dX2_widestGap_19 0 rfl ?_
        refine r_get FX2 4 (Nat.le_of_ble_eq_true rfl) kf_X2_28 1 (qC_1 Z w) rfl dX2_widestGap_20 ?_
        refine r_iload dX2_widestGap_23 4 rfl ?_
        refine r_iald 5 (qC_5 Z w) rfl dX2_widestGap_25 ?_
        refine r_aload_n dX2_widestGap_26 0 rfl ?_
        refine r_get FX2 0 (Nat.le_of_ble_eq_true rfl) kf_X2_12 1 (qC_1 Z w) rfl dX2_widestGap_27 ?_
        refine r_get FX4 2 (Nat.le_of_ble_eq_true rfl) kf_X2_64 10 (qC_10 Z w) rfl dX2_widestGap_30 ?_
        refine r_iload dX2_widestGap_33 4 rfl ?_
        refine r_iald 11 (qC_11 Z w) rfl dX2_widestGap_35 ?_
        refine r_aload_n dX2_widestGap_36 0 rfl ?_
        refine r_get FX2 0 (Nat.le_of_ble_eq_true rfl) kf_X2_12 1 (qC_1 Z w) rfl dX2_widestGap_37 ?_
        refine r_get FX4 3 (Nat.le_of_ble_eq_true rfl) kf_X2_51 10 (qC_10 Z w) rfl dX2_widestGap_40 ?_
        refine r_iconst (v := 0) dX2_widestGap_43 (by decide) ?_
        refine r_iald 12 (qC_12 Z w) rfl dX2_widestGap_44 ?_
        refine r_callS_I [Value.int x1, Value.int (w.1 5 (x4).toNatClampNeg), Value.int (w.1 11 (x4).toNatClampNeg), Value.int (w.1 12 ((0 : Int32)).toNatClampNeg)] cfX3_gap (m_X3_gap Z w x1 (w.1 5 (x4).toNatClampNeg) (w.1 11 (x4).toNatClampNeg) (w.1 12 ((0 : Int32)).toNatClampNeg)) km_X2_108 ⟨rfl, rfl, (Nat.le_of_ble_eq_true rfl), (Nat.le_of_ble_eq_true rfl)⟩ rfl rfl (Nat.le_of_ble_eq_true rfl) dX2_widestGap_45 (fun v3 => ?_)
        refine r_mmax km_X2_96 ⟨(Nat.le_of_ble_eq_true rfl), (Nat.le_of_ble_eq_true rfl)⟩ dX2_widestGap_48 ?_
        refine r_leti (fun y4 => ?_)
        refine r_istore_n (lv' := [(0, Value.ref (aC Z 1)), (1, Value.int x1), (2, Value.int x2), (3, Value.int y4), (4, Value.int x4)]) dX2_widestGap_51 (Nat.le_of_ble_eq_true rfl) [1, 2, 3, 0, 4] rfl ?_
        exact wk_X2_widestGap_b52 Z w x1 x2 y4 x4 _ (ih)
def f_X2_widestGap (x1 : Int32) (x2 : Int32) (w : Wd) : Option (Int32) :=
  f_X2_widestGap_b5 x1 x2 w FUEL (0 : Int32) (0 : Int32)
set_option maxRecDepth 100000 in
set_option maxHeartbeats 4000000 in
theorem wk_X2_widestGap (Z : CSp) (w : Wd) (x1 : Int32) (x2 : Int32)  : Wm (EC Z) MX2_widestGap (oI w) w 0 [(0, Value.ref (aC Z 1)), (1, Value.int x1), (2, Value.int x2)] [] (f_X2_widestGap x1 x2 w) := by
  unfold f_X2_widestGap
  refine r_iconst (v := 0) dX2_widestGap_0 (by decide) ?_
  refine r_istore_n (lv' := [(0, Value.ref (aC Z 1)), (1, Value.int x1), (2, Value.int x2), (3, Value.int (0 : Int32))]) dX2_widestGap_1 (Nat.le_of_ble_eq_true rfl) [1, 2, 3, 0] rfl ?_
  refine r_iconst (v := 0) dX2_widestGap_2 (by decide) ?_
  refine r_istore (lv' := [(0, Value.ref (aC Z 1)), (1, Value.int x1), (2, Value.int x2), (3, Value.int (0 : Int32)), (4, Value.int (0 : Int32))]) dX2_widestGap_3 (Nat.le_of_ble_eq_true rfl) [1, 2, 3, 4, 0] rfl ?_
  exact wk_X2_widestGap_b5 Z w x1 x2 FUEL (0 : Int32) (0 : Int32)
theorem m_X2_widestGap (Z : CSp) (w : Wd) (x1 : Int32) (x2 : Int32) : MetM (EC Z) yX2_widestGap cX2_widestGap 5 (some .int) { frames := 1, cells := 0, slots := 0, locals := 25 } (oI w) [Value.ref (aC Z 1), Value.int x1, Value.int x2] w (f_X2_widestGap x1 x2 w) := MetM_of (plainFor_of_name (by decide)) (Nat.le_of_ble_eq_true rfl) (wk_X2_widestGap Z w x1 x2)
abbrev MX2_search : Mt := (cX2_search, RX2, 7, some .boolean, { frames := 2, cells := 0, slots := 0, locals := 49 })
def f_X2_search_b167 (s0 : Int32) (w : Wd) : Option (Int32 × Wd) :=
  if zb s0 = true then some (s0, w) else none
set_option maxRecDepth 100000 in
set_option maxHeartbeats 4000000 in
theorem wk_X2_search_b167 (Z : CSp) (w : Wd) (s0 : Int32)  : Wm (EC Z) MX2_search oIw w 167 [] [Value.int s0] (f_X2_search_b167 s0 w) := by
  unfold f_X2_search_b167
  exact r_zretw rfl dX2_search_167
def f_X2_search_b152 (w : Wd) : Option (Int32 × Wd) :=
  if (w.1 1 5) = (-10001 : Int32) then (f_X2_search_b167 (0 : Int32) w) else (f_X2_search_b167 (1 : Int32) w)
set_option maxRecDepth 100000 in
set_option maxHeartbeats 4000000 in
theorem wk_X2_search_b152 (Z : CSp) (w : Wd)   : Wm (EC Z) MX2_search oIw w 152 [(0, Value.ref (aC Z 1))] [] (f_X2_search_b152 w) := by
  unfold f_X2_search_b152
  refine r_aload_n dX2_search_152 0 rfl ?_
  refine r_get FX2 5 (Nat.le_of_ble_eq_true rfl) kf_X2_85 1 (qC_1 Z w) rfl dX2_search_153 ?_
  refine r_sipush (v := -10001) dX2_search_156 (by decide) ?_
  refine r_icmp_eq (tgt := 166) dX2_search_159 (by decide) (fun _ => ?_) (fun _ => ?_)
  · refine r_iconst (v := 0) dX2_search_166 (by decide) ?_
    refine r_lv [] rfl ?_
    exact wk_X2_search_b167 Z w (0 : Int32)
  · refine r_iconst (v := 1) dX2_search_162 (by decide) ?_
    refine r_goto (tgt := 167) dX2_search_163 (by decide) ?_
    refine r_lv [] rfl ?_
    exact wk_X2_search_b167 Z w (1 : Int32)
def f_X2_search_b146 (x1 : Int32) (x2 : Int32) (x3 : Int32) (x4 : Int32) (k25 : Int32 → Int32 → Wd → Option (Int32 × Wd)) (w : Wd) : Option (Int32 × Wd) :=
  k25 x3 (x4 + 1) w
set_option maxRecDepth 100000 in
set_option maxHeartbeats 4000000 in
theorem wk_X2_search_b146 (Z : CSp) (w : Wd) (x1 : Int32) (x2 : Int32) (x3 : Int32) (x4 : Int32) (k25 : Int32 → Int32 → Wd → Option (Int32 × Wd)) (hk25 : ∀ (x3 : Int32) (x4 : Int32) (w : Wd), Wm (EC Z) MX2_search oIw w 25 [(0, Value.ref (aC Z 1)), (1, Value.int x1), (2, Value.int x2), (3, Value.int x3), (4, Value.int x4)] [] (k25 x3 x4 w)) : Wm (EC Z) MX2_search oIw w 146 [(0, Value.ref (aC Z 1)), (1, Value.int x1), (2, Value.int x2), (3, Value.int x3), (4, Value.int x4)] [] (f_X2_search_b146 x1 x2 x3 x4 k25 w) := by
  unfold f_X2_search_b146
  refine r_iinc (lv' := [(0, Value.ref (aC Z 1)), (1, Value.int x1), (2, Value.int x2), (3, Value.int x3), (4, Value.int (x4 + 1))]) dX2_search_146 4 rfl (by rfl) (Nat.le_of_ble_eq_true rfl) [1, 2, 3, 4, 0] rfl ?_
  refine r_goto (tgt := 25) dX2_search_149 (by decide) ?_
  exact hk25 x3 (x4 + 1) w
def f_X2_search_b109 (x1 : Int32) (x2 : Int32) (x3 : Int32) (x4 : Int32) (s0 : Int32) (k25 : Int32 → Int32 → Wd → Option (Int32 × Wd)) (w : Wd) : Option (Int32 × Wd) :=
  wput w 1 5 s0 (fun w3 => wput w3 1 6 x4 (fun w4 => if x1 = (-1 : Int32) then (if ((w4.1 1 6) - (w4.1 1 5)) ≤ x2 then (f_X2_search_b146 x1 x2 x3 x4 k25 w4) else (f_X2_search_b152 w4)) else (if x3 = 0 then (f_X2_search_b152 w4) else (f_X2_search_b146 x1 x2 x3 x4 k25 w4))))
set_option maxRecDepth 100000 in
set_option maxHeartbeats 4000000 in
theorem wk_X2_search_b109 (Z : CSp) (w : Wd) (x1 : Int32) (x2 : Int32) (x3 : Int32) (x4 : Int32) (s0 : Int32) (k25 : Int32 → Int32 → Wd → Option (Int32 × Wd)) (hk25 : ∀ (x3 : Int32) (x4 : Int32) (w : Wd), Wm (EC Z) MX2_search oIw w 25 [(0, Value.ref (aC Z 1)), (1, Value.int x1), (2, Value.int x2), (3, Value.int x3), (4, Value.int x4)] [] (k25 x3 x4 w)) : Wm (EC Z) MX2_search oIw w 109 [(0, Value.ref (aC Z 1)), (1, Value.int x1), (2, Value.int x2), (3, Value.int x3), (4, Value.int x4)] [Value.int s0, Value.ref (aC Z 1)] (f_X2_search_b109 x1 x2 x3 x4 s0 k25 w) := by
  unfold f_X2_search_b109
  refine r_puti FX2 tyX2_ok nmX2 kf_X2_85 (qC_1 Z w) ⟨(Nat.le_of_ble_eq_true rfl), (Nat.le_of_ble_eq_true rfl), rfl⟩ (by decide) (uC_1_5 Z w s0) dX2_search_109 (fun w3 => ?_)
  refine r_aload_n dX2_search_112 0 rfl ?_
  refine r_iload dX2_search_113 4 rfl ?_
  refine r_puti FX2 tyX2_ok nmX2 kf_X2_88 (qC_1 Z w3) ⟨(Nat.le_of_ble_eq_true rfl), (Nat.le_of_ble_eq_true rfl), rfl⟩ (by decide) (uC_1_6 Z w3 x4) dX2_search_115 (fun w4 => ?_)
  refine r_iload_n dX2_search_118 1 rfl ?_
  refine r_iconst (v := -1) dX2_search_119 (by decide) ?_
  refine r_icmp_ne (tgt := 139) dX2_search_120 (by decide) (fun _ => ?_) (fun _ => ?_)
  · refine r_iload_n dX2_search_139 3 rfl ?_
    refine r_if_ne (tgt := 146) dX2_search_140 (by decide) (fun _ => ?_) (fun _ => ?_)
    · exact wk_X2_search_b146 Z w4 x1 x2 x3 x4 k25 hk25
    · refine r_goto (tgt := 152) dX2_search_143 (by decide) ?_
      refine r_lv [0] rfl ?_
      exact wk_X2_search_b152 Z w4
  · refine r_aload_n dX2_search_123 0 rfl ?_
    refine r_get FX2 6 (Nat.le_of_ble_eq_true rfl) kf_X2_88 1 (qC_1 Z w4) rfl dX2_search_124 ?_
    refine r_aload_n dX2_search_127 0 rfl ?_
    refine r_get FX2 5 (Nat.le_of_ble_eq_true rfl) kf_X2_85 1 (qC_1 Z w4) rfl dX2_search_128 ?_
    refine r_isub dX2_search_131 ?_
    refine r_iload_n dX2_search_132 2 rfl ?_
    refine r_icmp_le (tgt := 146) dX2_search_133 (by decide) (fun _ => ?_) (fun _ => ?_)
    · exact wk_X2_search_b146 Z w4 x1 x2 x3 x4 k25 hk25
    · refine r_goto (tgt := 152) dX2_search_136 (by decide) ?_
      refine r_lv [0] rfl ?_
      exact wk_X2_search_b152 Z w4
def f_X2_search_b89 (x1 : Int32) (x2 : Int32) (x3 : Int32) (x4 : Int32) (k25 : Int32 → Int32 → Wd → Option (Int32 × Wd)) (w : Wd) : Option (Int32 × Wd) :=
  if (w.1 1 5) = (-10001 : Int32) then (f_X2_search_b109 x1 x2 x3 x4 x4 k25 w) else (f_X2_search_b109 x1 x2 x3 x4 (w.1 1 5) k25 w)
set_option maxRecDepth 100000 in
set_option maxHeartbeats 4000000 in
theorem wk_X2_search_b89 (Z : CSp) (w : Wd) (x1 : Int32) (x2 : Int32) (x3 : Int32) (x4 : Int32) (k25 : Int32 → Int32 → Wd → Option (Int32 × Wd)) (hk25 : ∀ (x3 : Int32) (x4 : Int32) (w : Wd), Wm (EC Z) MX2_search oIw w 25 [(0, Value.ref (aC Z 1)), (1, Value.int x1), (2, Value.int x2), (3, Value.int x3), (4, Value.int x4)] [] (k25 x3 x4 w)) : Wm (EC Z) MX2_search oIw w 89 [(0, Value.ref (aC Z 1)), (1, Value.int x1), (2, Value.int x2), (3, Value.int x3), (4, Value.int x4)] [] (f_X2_search_b89 x1 x2 x3 x4 k25 w) := by
  unfold f_X2_search_b89
  refine r_aload_n dX2_search_89 0 rfl ?_
  refine r_aload_n dX2_search_90 0 rfl ?_
  refine r_get FX2 5 (Nat.le_of_ble_eq_true rfl) kf_X2_85 1 (qC_1 Z w) rfl dX2_search_91 ?_
  refine r_sipush (v := -10001) dX2_search_94 (by decide) ?_
  refine r_icmp_ne (tgt := 105) dX2_search_97 (by decide) (fun _ => ?_) (fun _ => ?_)
  · refine r_aload_n dX2_search_105 0 rfl ?_
    refine r_get FX2 5 (Nat.le_of_ble_eq_true rfl) kf_X2_85 1 (qC_1 Z w) rfl dX2_search_106 ?_
    exact wk_X2_search_b109 Z w x1 x2 x3 x4 (w.1 1 5) k25 hk25
  · refine r_iload dX2_search_100 4 rfl ?_
    refine r_goto (tgt := 109) dX2_search_102 (by decide) ?_
    exact wk_X2_search_b109 Z w x1 x2 x3 x4 x4 k25 hk25
def f_X2_search_b25 (x1 : Int32) (x2 : Int32) : Nat → Int32 → Int32 → Wd → Option (Int32 × Wd)
  | 0, _, _, _ => none
  | n + 1, x3, x4, w =>
  if inb (3 : Int32) 6 = true then (if (w.1 12 ((3 : Int32)).toNatClampNeg) < x4 then (f_X2_search_b152 w) else ((f_X2_widestGap x4 x1 w).bind (fun v5 => if v5 ≤ 0 then ((f_X2_misfit x4 x1 w).bind (fun v6 => if x3 ≤ v6 then (f_X2_search_b89 x1 x2 x3 x4 (f_X2_search_b25 x1 x2 n) w) else (wput w 1 7 x4 (fun w7 => f_X2_search_b89 x1 x2 v6 x4 (f_X2_search_b25 x1 x2 n) w7)))) else (jlet (x4 + (v5 - (1 : Int32))) (fun y8 => f_X2_search_b146 x1 x2 x3 y8 (f_X2_search_b25 x1 x2 n) w))))) else none
set_option maxRecDepth 100000 in
set_option maxHeartbeats 4000000 in
theorem wk_X2_search_b25 (Z : CSp) (x1 : Int32) (x2 : Int32)  : ∀ (n : Nat) (x3 : Int32) (x4 : Int32) (w : Wd), Wm (EC Z) MX2_search oIw w 25 [(0, Value.ref (aC Z 1)), (1, Value.int x1), (2, Value.int x2), (3, Value.int x3), (4, Value.int x4)] [] (f_X2_search_b25 x1 x2 n x3 x4 w) := by
  intro n
  induction n with
  | zero =>
    intro x3 x4 w
    exact r_none
  | succ n ih =>
    intro x3 x4 w
    rw [f_X2_search_b25]
    refine r_iload dX2_search_25 4 rfl ?_
    refine r_aload_n dX2_search_27 0 rfl ?_
    refine r_get FX2 0 (Nat.le_of_ble_eq_true rfl) kf_X2_12 1 (qC_1 Z w) rfl dX2_search_28 ?_
    refine r_get FX4 3 (Nat.le_of_ble_eq_true rfl) kf_X2_51 10 (qC_10 Z w) rfl dX2_search_31 ?_
    refine r_iconst (v := 3) dX2_search_34 (by decide) ?_
    refine r_iald 12 (qC_12 Z w) rfl dX2_search_35 ?_
    refine r_icmp_gt (tgt := 152) dX2_search_36 (by decide) (fun _ => ?_) (fun _ => ?_)
    · refine r_lv [0] rfl ?_
      exact wk_X2_search_b152 Z w
    · refine r_aload_n dX2_search_39 0 rfl ?_
      refine r_iload dX2_search_40 4 rfl ?_
      refine r_iload_n dX2_search_42 1 rfl ?_
      refine r_callV_I [Value.int x4, Value.int x1] cfX2_widestGap (m_X2_widestGap Z w x4 x1) km_X2_102 ⟨rfl, rfl, (Nat.le_of_ble_eq_true rfl), (Nat.le_of_ble_eq_true rfl)⟩ rfl rfl 1 (qC_1 Z w) rfl rfl (Nat.le_of_ble_eq_true rfl) dX2_search_43 (fun v5 => ?_)
      refine r_istore (lv' := [(0, Value.ref (aC Z 1)), (1, Value.int x1), (2, Value.int x2), (3, Value.int x3), (4, Value.int x4), (5, Value.int v5)]) dX2_search_46 (Nat.le_of_ble_eq_true rfl) [1, 2, 3, 4, 5, 0] rfl ?_
      refine r_iload dX2_search_48 5 rfl ?_
      refine r_if_le (tgt := 65) dX2_search_50 (by decide) (fun _ => ?_) (fun _ => ?_)
      · refine r_aload_n dX2_search_65 0 rfl ?_
        refine r_iload dX2_search_66 4 rfl ?_
        refine r_iload_n dX2_search_68 1 rfl ?_
        refine r_callV_I [Value.int x4, Value.int x1] cfX2_misfit (m_X2_misfit Z w x4 x1) km_X2_105 ⟨rfl, rfl, (Nat.le_of_ble_eq_true rfl), (Nat.le_of_ble_eq_true rfl)⟩ rfl rfl 1 (qC_1 Z w) rfl rfl (Nat.le_of_ble_eq_true rfl) dX2_search_69 (fun v6 => ?_)
        refine r_istore (lv' := [(0, Value.ref (aC Z 1)), (1, Value.int x1), (2, Value.int x2), (3, Value.int x3), (4, Value.int x4), (5, Value.int v5), (6, Value.int v6)]) dX2_search_72 (Nat.le_of_ble_eq_true rfl) [1, 2, 3, 4, 5, 6, 0] rfl ?_
        refine r_iload dX2_search_74 6 rfl ?_
        refine r_iload_n dX2_search_76 3 rfl ?_
        refine r_icmp_ge (tgt := 89) dX2_search_77 (by decide) (fun _ => ?_) (fun _ => ?_)
        · refine r_lv [0, 1, 2, 3, 4] rfl ?_
          exact wk_X2_search_b89 Z w x1 x2 x3 x4 _ (ih)
        · refine r_iload dX2_search_80 6 rfl ?_
          refine r_istore_n (lv' := [(0, Value.ref (aC Z 1)), (1, Value.int x1), (2, Value.int x2), (3, Value.int v6), (4, Value.int x4), (5, Value.int v5), (6, Value.int v6)]) dX2_search_82 (Nat.le_of_ble_eq_true rfl) [1, 2, 3, 0, 4, 5, 6] rfl ?_
          refine r_aload_n dX2_search_83 0 rfl ?_
          refine r_iload dX2_search_84 4 rfl ?_
          refine r_puti FX2 tyX2_ok nmX2 kf_X2_81 (qC_1 Z w) ⟨(Nat.le_of_ble_eq_true rfl), (Nat.le_of_ble_eq_true rfl), rfl⟩ (by decide) (uC_1_7 Z w x4) dX2_search_86 (fun w7 => ?_)
          refine r_lv [0, 1, 2, 3, 4] rfl ?_
          exact wk_X2_search_b89 Z w7 x1 x2 v6 x4 _ (ih)
      · refine r_iload dX2_search_53 4 rfl ?_
        refine r_iload dX2_search_55 5 rfl ?_
        refine r_iconst (v := 1) dX2_search_57 (by decide) ?_
        refine r_isub dX2_search_58 ?_
        refine r_iadd dX2_search_59 ?_
        refine r_leti (fun y8 => ?_)
        refine r_istore (lv' := [(0, Value.ref (aC Z 1)), (1, Value.int x1), (2, Value.int x2), (3, Value.int x3), (4, Value.int y8), (5, Value.int v5)]) dX2_search_60 (Nat.le_of_ble_eq_true rfl) [1, 2, 3, 4, 0, 5] rfl ?_
        refine r_goto (tgt := 146) dX2_search_62 (by decide) ?_
        refine r_lv [0, 1, 2, 3, 4] rfl ?_
        exact wk_X2_search_b146 Z w x1 x2 x3 y8 _ (ih)
def f_X2_search (x1 : Int32) (w : Wd) : Option (Int32 × Wd) :=
  wput w 1 5 (-10001 : Int32) (fun w1 => if inb (0 : Int32) 6 = true then (jlet ((4 : Int32) * (w1.1 12 ((0 : Int32)).toNatClampNeg)) (fun y2 => f_X2_search_b25 x1 y2 FUEL (2147483647 : Int32) (0 : Int32) w1)) else none)
set_option maxRecDepth 100000 in
set_option maxHeartbeats 4000000 in
theorem wk_X2_search (Z : CSp) (w : Wd) (x1 : Int32)  : Wm (EC Z) MX2_search oIw w 0 [(0, Value.ref (aC Z 1)), (1, Value.int x1)] [] (f_X2_search x1 w) := by
  unfold f_X2_search
  refine r_aload_n dX2_search_0 0 rfl ?_
  refine r_sipush (v := -10001) dX2_search_1 (by decide) ?_
  refine r_puti FX2 tyX2_ok nmX2 kf_X2_85 (qC_1 Z w) ⟨(Nat.le_of_ble_eq_true rfl), (Nat.le_of_ble_eq_true rfl), rfl⟩ (by decide) (uC_1_5 Z w (-10001 : Int32)) dX2_search_4 (fun w1 => ?_)
  refine r_iconst (v := 4) dX2_search_7 (by decide) ?_
  refine r_aload_n dX2_search_8 0 rfl ?_
  refine r_get FX2 0 (Nat.le_of_ble_eq_true rfl) kf_X2_12 1 (qC_1 Z w1) rfl dX2_search_9 ?_
  refine r_get FX4 3 (Nat.le_of_ble_eq_true rfl) kf_X2_51 10 (qC_10 Z w1) rfl dX2_search_12 ?_
  refine r_iconst (v := 0) dX2_search_15 (by decide) ?_
  refine r_iald 12 (qC_12 Z w1) rfl dX2_search_16 ?_
  refine r_imul dX2_search_17 ?_
  refine r_leti (fun y2 => ?_)
  refine r_istore_n (lv' := [(0, Value.ref (aC Z 1)), (1, Value.int x1), (2, Value.int y2)]) dX2_search_18 (Nat.le_of_ble_eq_true rfl) [1, 2, 0] rfl ?_
  refine r_ldc dX2_search_19 kk_X2_101 ?_
  refine r_istore_n (lv' := [(0, Value.ref (aC Z 1)), (1, Value.int x1), (2, Value.int y2), (3, Value.int (2147483647 : Int32))]) dX2_search_21 (Nat.le_of_ble_eq_true rfl) [1, 2, 3, 0] rfl ?_
  refine r_iconst (v := 0) dX2_search_22 (by decide) ?_
  refine r_istore (lv' := [(0, Value.ref (aC Z 1)), (1, Value.int x1), (2, Value.int y2), (3, Value.int (2147483647 : Int32)), (4, Value.int (0 : Int32))]) dX2_search_23 (Nat.le_of_ble_eq_true rfl) [1, 2, 3, 4, 0] rfl ?_
  exact wk_X2_search_b25 Z x1 y2 FUEL (2147483647 : Int32) (0 : Int32) w1
theorem m_X2_search (Z : CSp) (w : Wd) (x1 : Int32) : MetM (EC Z) yX2_search cX2_search 7 (some .boolean) { frames := 2, cells := 0, slots := 0, locals := 49 } oIw [Value.ref (aC Z 1), Value.int x1] w (f_X2_search x1 w) := MetM_of (plainFor_of_name (by decide)) (Nat.le_of_ble_eq_true rfl) (wk_X2_search Z w x1)
abbrev MX2_reckon : Mt := (cX2_reckon, RX2, 5, some .int, { frames := 3, cells := 0, slots := 0, locals := 75 })
def f_X2_reckon_b174 (s0 : Int32) (w : Wd) : Option (Int32 × Wd) :=
  some (s0, w)
set_option maxRecDepth 100000 in
set_option maxHeartbeats 4000000 in
theorem wk_X2_reckon_b174 (Z : CSp) (w : Wd) (s0 : Int32)  : Wm (EC Z) MX2_reckon oIw w 174 [] [Value.int s0] (f_X2_reckon_b174 s0 w) := by
  unfold f_X2_reckon_b174
  exact r_iretw rfl dX2_reckon_174
def f_X2_reckon_b169 (w : Wd) : Option (Int32 × Wd) :=
  f_X2_reckon_b174 (3 : Int32) w
set_option maxRecDepth 100000 in
set_option maxHeartbeats 4000000 in
theorem wk_X2_reckon_b169 (Z : CSp) (w : Wd)   : Wm (EC Z) MX2_reckon oIw w 169 [] [] (f_X2_reckon_b169 w) := by
  unfold f_X2_reckon_b169
  refine r_iconst (v := 3) dX2_reckon_169 (by decide) ?_
  refine r_goto (tgt := 174) dX2_reckon_170 (by decide) ?_
  exact wk_X2_reckon_b174 Z w (3 : Int32)
def f_X2_reckon_b103 (w : Wd) : Option (Int32 × Wd) :=
  some ((2 : Int32), w)
set_option maxRecDepth 100000 in
set_option maxHeartbeats 4000000 in
theorem wk_X2_reckon_b103 (Z : CSp) (w : Wd)   : Wm (EC Z) MX2_reckon oIw w 103 [] [] (f_X2_reckon_b103 w) := by
  unfold f_X2_reckon_b103
  refine r_iconst (v := 2) dX2_reckon_103 (by decide) ?_
  exact r_iretw rfl dX2_reckon_104
def f_X2_reckon_b24 (x1 : Int32) : Nat → Int32 → Wd → Option (Int32 × Wd)
  | 0, _, _ => none
  | n + 1, x2, w =>
  if (3 : Int32) ≤ x2 then ((f_X2_search (-1 : Int32) w).bind (fun z9 => if z9.1 = 0 then (some ((5 : Int32), z9.2)) else (if inb x1 32 = true then (wput z9.2 3 (x1).toNatClampNeg (z9.2.1 1 7) (fun w10 => if inb (0 : Int32) 6 = true then (jlet ((2 : Int32) * (w10.1 12 ((0 : Int32)).toNatClampNeg)) (fun y11 => if y11 < ((w10.1 1 7) - (w10.1 1 5)) then (f_X2_reckon_b169 w10) else (if ((w10.1 1 6) - (w10.1 1 7)) ≤ y11 then (f_X2_reckon_b174 (0 : Int32) w10) else (f_X2_reckon_b169 w10)))) else none)) else none))) else ((f_X4_across x1 x2 w).bind (fun v12 => (f_X4_along x1 x2 w).bind (fun v13 => if inb x2 3 = true then ((f_X3_residue v12 v13 (w.1 11 (x2).toNatClampNeg)).bind (fun v14 => if inb x2 3 = true then (wput w 5 (x2).toNatClampNeg v14 (fun w15 => if inb x2 3 = true then (if (w15.1 5 (x2).toNatClampNeg) = (-10001 : Int32) then (f_X2_reckon_b103 w15) else ((f_X3_strength v12 v13).bind (fun v16 => if inb (1 : Int32) 6 = true then (if 0 ≤ (fcg v16 (FP.i2f (w15.1 12 ((1 : Int32)).toNatClampNeg))) then (f_X2_reckon_b24 x1 n (x2 + 1) w15) else (f_X2_reckon_b103 w15)) else none))) else none)) else none)) else none)))
set_option maxRecDepth 100000 in
set_option maxHeartbeats 4000000 in
theorem wk_X2_reckon_b24 (Z : CSp) (x1 : Int32)  : ∀ (n : Nat) (x2 : Int32) (w : Wd), Wm (EC Z) MX2_reckon oIw w 24 [(0, Value.ref (aC Z 1)), (1, Value.int x1), (2, Value.int x2)] [] (f_X2_reckon_b24 x1 n x2 w) := by
  intro n
  induction n with
  | zero =>
    intro x2 w
    exact r_none
  | succ n ih =>
    intro x2 w
    rw [f_X2_reckon_b24]
    refine r_iload_n dX2_reckon_24 2 rfl ?_
    refine r_iconst (v := 3) dX2_reckon_25 (by decide) ?_
    refine r_icmp_ge (tgt := 111) dX2_reckon_26 (by decide) (fun _ => ?_) (fun _ => ?_)
    · refine r_aload_n dX2_reckon_111 0 rfl ?_
      refine r_iconst (v := -1) dX2_reckon_112 (by decide) ?_
      refine r_callV_Iw [Value.int (-1 : Int32)] cfX2_search (m_X2_search Z w (-1 : Int32)) km_X2_77 ⟨rfl, rfl, (Nat.le_of_ble_eq_true rfl), (Nat.le_of_ble_eq_true rfl)⟩ rfl rfl 1 (qC_1 Z w) rfl rfl (Nat.le_of_ble_eq_true rfl) dX2_reckon_113 (fun z9 => ?_)
      refine r_if_ne (tgt := 121) dX2_reckon_116 (by decide) (fun _ => ?_) (fun _ => ?_)
      · refine r_aload_n dX2_reckon_121 0 rfl ?_
        refine r_get FX2 2 (Nat.le_of_ble_eq_true rfl) kf_X2_22 1 (qC_1 Z z9.2) rfl dX2_reckon_122 ?_
        refine r_iload_n dX2_reckon_125 1 rfl ?_
        refine r_aload_n dX2_reckon_126 0 rfl ?_
        refine r_get FX2 7 (Nat.le_of_ble_eq_true rfl) kf_X2_81 1 (qC_1 Z z9.2) rfl dX2_reckon_127 ?_
        refine r_iast (qC_3 Z z9.2) rfl (uC_3 Z z9.2 (z9.2.1 1 7)) dX2_reckon_130 (fun w10 => ?_)
        refine r_iconst (v := 2) dX2_reckon_131 (by decide) ?_
        refine r_aload_n dX2_reckon_132 0 rfl ?_
        refine r_get FX2 0 (Nat.le_of_ble_eq_true rfl) kf_X2_12 1 (qC_1 Z w10) rfl dX2_reckon_133 ?_
        refine r_get FX4 3 (Nat.le_of_ble_eq_true rfl) kf_X2_51 10 (qC_10 Z w10) rfl dX2_reckon_136 ?_
        refine r_iconst (v := 0) dX2_reckon_139 (by decide) ?_
        refine r_iald 12 (qC_12 Z w10) rfl dX2_reckon_140 ?_
        refine r_imul dX2_reckon_141 ?_
        refine r_leti (fun y11 => ?_)
        refine r_istore_n (lv' := [(0, Value.ref (aC Z 1)), (1, Value.int x1), (2, Value.int y11)]) dX2_reckon_142 (Nat.le_of_ble_eq_true rfl) [1, 2, 0] rfl ?_
        refine r_aload_n dX2_reckon_143 0 rfl ?_
        refine r_get FX2 7 (Nat.le_of_ble_eq_true rfl) kf_X2_81 1 (qC_1 Z w10) rfl dX2_reckon_144 ?_
        refine r_aload_n dX2_reckon_147 0 rfl ?_
        refine r_get FX2 5 (Nat.le_of_ble_eq_true rfl) kf_X2_85 1 (qC_1 Z w10) rfl dX2_reckon_148 ?_
        refine r_isub dX2_reckon_151 ?_
        refine r_iload_n dX2_reckon_152 2 rfl ?_
        refine r_icmp_gt (tgt := 169) dX2_reckon_153 (by decide) (fun _ => ?_) (fun _ => ?_)
        · refine r_lv [] rfl ?_
          exact wk_X2_reckon_b169 Z w10
        · refine r_aload_n dX2_reckon_156 0 rfl ?_
          refine r_get FX2 6 (Nat.le_of_ble_eq_true rfl) kf_X2_88 1 (qC_1 Z w10) rfl dX2_reckon_157 ?_
          refine r_aload_n dX2_reckon_160 0 rfl ?_
          refine r_get FX2 7 (Nat.le_of_ble_eq_true rfl) kf_X2_81 1 (qC_1 Z w10) rfl dX2_reckon_161 ?_
          refine r_isub dX2_reckon_164 ?_
          refine r_iload_n dX2_reckon_165 2 rfl ?_
          refine r_icmp_le (tgt := 173) dX2_reckon_166 (by decide) (fun _ => ?_) (fun _ => ?_)
          · refine r_iconst (v := 0) dX2_reckon_173 (by decide) ?_
            refine r_lv [] rfl ?_
            exact wk_X2_reckon_b174 Z w10 (0 : Int32)
          · refine r_lv [] rfl ?_
            exact wk_X2_reckon_b169 Z w10
      · refine r_iconst (v := 5) dX2_reckon_119 (by decide) ?_
        exact r_iretw rfl dX2_reckon_120
    · refine r_aload_n dX2_reckon_29 0 rfl ?_
      refine r_get FX2 0 (Nat.le_of_ble_eq_true rfl) kf_X2_12 1 (qC_1 Z w) rfl dX2_reckon_30 ?_
      refine r_iload_n dX2_reckon_33 1 rfl ?_
      refine r_iload_n dX2_reckon_34 2 rfl ?_
      refine r_callV_I [Value.int x1, Value.int x2] cfX4_across (m_X4_across Z w x1 x2) km_X2_58 ⟨rfl, rfl, (Nat.le_of_ble_eq_true rfl), (Nat.le_of_ble_eq_true rfl)⟩ rfl rfl 10 (qC_10 Z w) rfl rfl (Nat.le_of_ble_eq_true rfl) dX2_reckon_35 (fun v12 => ?_)
      refine r_istore_n (lv' := [(0, Value.ref (aC Z 1)), (1, Value.int x1), (2, Value.int x2), (3, Value.int v12)]) dX2_reckon_38 (Nat.le_of_ble_eq_true rfl) [1, 2, 3, 0] rfl ?_
      refine r_aload_n dX2_reckon_39 0 rfl ?_
      refine r_get FX2 0 (Nat.le_of_ble_eq_true rfl) kf_X2_12 1 (qC_1 Z w) rfl dX2_reckon_40 ?_
      refine r_iload_n dX2_reckon_43 1 rfl ?_
      refine r_iload_n dX2_reckon_44 2 rfl ?_
      refine r_callV_I [Value.int x1, Value.int x2] cfX4_along (m_X4_along Z w x1 x2) km_X2_61 ⟨rfl, rfl, (Nat.le_of_ble_eq_true rfl), (Nat.le_of_ble_eq_true rfl)⟩ rfl rfl 10 (qC_10 Z w) rfl rfl (Nat.le_of_ble_eq_true rfl) dX2_reckon_45 (fun v13 => ?_)
      refine r_istore (lv' := [(0, Value.ref (aC Z 1)), (1, Value.int x1), (2, Value.int x2), (3, Value.int v12), (4, Value.int v13)]) dX2_reckon_48 (Nat.le_of_ble_eq_true rfl) [1, 2, 3, 4, 0] rfl ?_
      refine r_aload_n dX2_reckon_50 0 rfl ?_
      refine r_get FX2 4 (Nat.le_of_ble_eq_true rfl) kf_X2_28 1 (qC_1 Z w) rfl dX2_reckon_51 ?_
      refine r_iload_n dX2_reckon_54 2 rfl ?_
      refine r_iload_n dX2_reckon_55 3 rfl ?_
      refine r_iload dX2_reckon_56 4 rfl ?_
      refine r_aload_n dX2_reckon_58 0 rfl ?_
      refine r_get FX2 0 (Nat.le_of_ble_eq_true rfl) kf_X2_12 1 (qC_1 Z w) rfl dX2_reckon_59 ?_
      refine r_get FX4 2 (Nat.le_of_ble_eq_true rfl) kf_X2_64 10 (qC_10 Z w) rfl dX2_reckon_62 ?_
      refine r_iload_n dX2_reckon_65 2 rfl ?_
      refine r_iald 11 (qC_11 Z w) rfl dX2_reckon_66 ?_
      refine r_callS_I [Value.int v12, Value.int v13, Value.int (w.1 11 (x2).toNatClampNeg)] cfX3_residue (m_X3_residue Z w v12 v13 (w.1 11 (x2).toNatClampNeg)) km_X2_67 ⟨rfl, rfl, (Nat.le_of_ble_eq_true rfl), (Nat.le_of_ble_eq_true rfl)⟩ rfl rfl (Nat.le_of_ble_eq_true rfl) dX2_reckon_67 (fun v14 => ?_)
      refine r_iast (qC_5 Z w) rfl (uC_5 Z w v14) dX2_reckon_70 (fun w15 => ?_)
      refine r_aload_n dX2_reckon_71 0 rfl ?_
      refine r_get FX2 4 (Nat.le_of_ble_eq_true rfl) kf_X2_28 1 (qC_1 Z w15) rfl dX2_reckon_72 ?_
      refine r_iload_n dX2_reckon_75 2 rfl ?_
      refine r_iald 5 (qC_5 Z w15) rfl dX2_reckon_76 ?_
      refine r_sipush (v := -10001) dX2_reckon_77 (by decide) ?_
      refine r_icmp_eq (tgt := 103) dX2_reckon_80 (by decide) (fun _ => ?_) (fun _ => ?_)
      · refine r_lv [] rfl ?_
        exact wk_X2_reckon_b103 Z w15
      · refine r_iload_n dX2_reckon_83 3 rfl ?_
        refine r_iload dX2_reckon_84 4 rfl ?_
        refine r_callS_F [Value.int v12, Value.int v13] cfX3_strength (m_X3_strength Z w15 v12 v13) km_X2_73 ⟨rfl, rfl, (Nat.le_of_ble_eq_true rfl), (Nat.le_of_ble_eq_true rfl)⟩ rfl rfl (Nat.le_of_ble_eq_true rfl) dX2_reckon_86 (fun v16 => ?_)
        refine r_aload_n dX2_reckon_89 0 rfl ?_
        refine r_get FX2 0 (Nat.le_of_ble_eq_true rfl) kf_X2_12 1 (qC_1 Z w15) rfl dX2_reckon_90 ?_
        refine r_get FX4 3 (Nat.le_of_ble_eq_true rfl) kf_X2_51 10 (qC_10 Z w15) rfl dX2_reckon_93 ?_
        refine r_iconst (v := 1) dX2_reckon_96 (by decide) ?_
        refine r_iald 12 (qC_12 Z w15) rfl dX2_reckon_97 ?_
        refine r_i2f dX2_reckon_98 ?_
        refine r_fcmpg dX2_reckon_99 ?_
        refine r_if_ge (tgt := 105) dX2_reckon_100 (by decide) (fun _ => ?_) (fun _ => ?_)
        · refine r_iinc (lv' := [(0, Value.ref (aC Z 1)), (1, Value.int x1), (2, Value.int (x2 + 1)), (3, Value.int v12), (4, Value.int v13)]) dX2_reckon_105 2 rfl (by rfl) (Nat.le_of_ble_eq_true rfl) [1, 2, 0, 3, 4] rfl ?_
          refine r_goto (tgt := 24) dX2_reckon_108 (by decide) ?_
          refine r_lv [0, 1, 2] rfl ?_
          exact ih (x2 + 1) w15
        · refine r_lv [] rfl ?_
          exact wk_X2_reckon_b103 Z w15
def f_X2_reckon (x1 : Int32) (w : Wd) : Option (Int32 × Wd) :=
  if inb (2 : Int32) 6 = true then ((f_X4_countFrom x1 (w.1 12 ((2 : Int32)).toNatClampNeg) w).bind (fun v1 => if v1 ≤ 0 then (f_X2_reckon_b24 x1 FUEL (0 : Int32) w) else (some ((1 : Int32), w)))) else none
set_option maxRecDepth 100000 in
set_option maxHeartbeats 4000000 in
theorem wk_X2_reckon (Z : CSp) (w : Wd) (x1 : Int32)  : Wm (EC Z) MX2_reckon oIw w 0 [(0, Value.ref (aC Z 1)), (1, Value.int x1)] [] (f_X2_reckon x1 w) := by
  unfold f_X2_reckon
  refine r_aload_n dX2_reckon_0 0 rfl ?_
  refine r_get FX2 0 (Nat.le_of_ble_eq_true rfl) kf_X2_12 1 (qC_1 Z w) rfl dX2_reckon_1 ?_
  refine r_iload_n dX2_reckon_4 1 rfl ?_
  refine r_aload_n dX2_reckon_5 0 rfl ?_
  refine r_get FX2 0 (Nat.le_of_ble_eq_true rfl) kf_X2_12 1 (qC_1 Z w) rfl dX2_reckon_6 ?_
  refine r_get FX4 3 (Nat.le_of_ble_eq_true rfl) kf_X2_51 10 (qC_10 Z w) rfl dX2_reckon_9 ?_
  refine r_iconst (v := 2) dX2_reckon_12 (by decide) ?_
  refine r_iald 12 (qC_12 Z w) rfl dX2_reckon_13 ?_
  refine r_callV_I [Value.int x1, Value.int (w.1 12 ((2 : Int32)).toNatClampNeg)] cfX4_countFrom (m_X4_countFrom Z w x1 (w.1 12 ((2 : Int32)).toNatClampNeg)) km_X2_54 ⟨rfl, rfl, (Nat.le_of_ble_eq_true rfl), (Nat.le_of_ble_eq_true rfl)⟩ rfl rfl 10 (qC_10 Z w) rfl rfl (Nat.le_of_ble_eq_true rfl) dX2_reckon_14 (fun v1 => ?_)
  refine r_if_le (tgt := 22) dX2_reckon_17 (by decide) (fun _ => ?_) (fun _ => ?_)
  · refine r_iconst (v := 0) dX2_reckon_22 (by decide) ?_
    refine r_istore_n (lv' := [(0, Value.ref (aC Z 1)), (1, Value.int x1), (2, Value.int (0 : Int32))]) dX2_reckon_23 (Nat.le_of_ble_eq_true rfl) [1, 2, 0] rfl ?_
    exact wk_X2_reckon_b24 Z x1 FUEL (0 : Int32) w
  · refine r_iconst (v := 1) dX2_reckon_20 (by decide) ?_
    exact r_iretw rfl dX2_reckon_21
theorem m_X2_reckon (Z : CSp) (w : Wd) (x1 : Int32) : MetM (EC Z) yX2_reckon cX2_reckon 5 (some .int) { frames := 3, cells := 0, slots := 0, locals := 75 } oIw [Value.ref (aC Z 1), Value.int x1] w (f_X2_reckon x1 w) := MetM_of (plainFor_of_name (by decide)) (Nat.le_of_ble_eq_true rfl) (wk_X2_reckon Z w x1)
abbrev MX2_reckonPairs : Mt := (cX2_reckonPairs, RX2, 5, some .int, { frames := 3, cells := 0, slots := 0, locals := 75 })
def f_X2_reckonPairs_b90 (s0 : Int32) (w : Wd) : Option (Int32 × Wd) :=
  some (s0, w)
set_option maxRecDepth 100000 in
set_option maxHeartbeats 4000000 in
theorem wk_X2_reckonPairs_b90 (Z : CSp) (w : Wd) (s0 : Int32)  : Wm (EC Z) MX2_reckonPairs oIw w 90 [] [Value.int s0] (f_X2_reckonPairs_b90 s0 w) := by
  unfold f_X2_reckonPairs_b90
  exact r_iretw rfl dX2_reckonPairs_90
def f_X2_reckonPairs_b58 (x1 : Int32) (x2 : Int32) (x3 : Int32) (x4 : Int32) (k11 : Int32 → Int32 → Int32 → Wd → Option (Int32 × Wd)) (w : Wd) : Option (Int32 × Wd) :=
  k11 x2 x3 (x4 + 1) w
set_option maxRecDepth 100000 in
set_option maxHeartbeats 4000000 in
theorem wk_X2_reckonPairs_b58 (Z : CSp) (w : Wd) (x1 : Int32) (x2 : Int32) (x3 : Int32) (x4 : Int32) (k11 : Int32 → Int32 → Int32 → Wd → Option (Int32 × Wd)) (hk11 : ∀ (x2 : Int32) (x3 : Int32) (x4 : Int32) (w : Wd), Wm (EC Z) MX2_reckonPairs oIw w 11 [(0, Value.ref (aC Z 1)), (1, Value.int x1), (2, Value.int x2), (3, Value.int x3), (4, Value.int x4)] [] (k11 x2 x3 x4 w)) : Wm (EC Z) MX2_reckonPairs oIw w 58 [(0, Value.ref (aC Z 1)), (1, Value.int x1), (2, Value.int x2), (3, Value.int x3), (4, Value.int x4)] [] (f_X2_reckonPairs_b58 x1 x2 x3 x4 k11 w) := by
  unfold f_X2_reckonPairs_b58
  refine r_iinc (lv' := [(0, Value.ref (aC Z 1)), (1, Value.int x1), (2, Value.int x2), (3, Value.int x3), (4, Value.int (x4 + 1))]) dX2_reckonPairs_58 4 rfl (by rfl) (Nat.le_of_ble_eq_true rfl) [1, 2, 3, 4, 0] rfl ?_
  refine r_goto (tgt := 11) dX2_reckonPairs_61 (by decide) ?_
  exact hk11 x2 x3 (x4 + 1) w
def f_X2_reckonPairs_b48 (x1 : Int32) (x3 : Int32) (x4 : Int32) (s0 : Int32) (k11 : Int32 → Int32 → Int32 → Wd → Option (Int32 × Wd)) (w : Wd) : Option (Int32 × Wd) :=
  jlet (if x3 < (w.1 1 7) then (w.1 1 7) else x3) (fun y2 => f_X2_reckonPairs_b58 x1 s0 y2 x4 k11 w)
set_option maxRecDepth 100000 in
set_option maxHeartbeats 4000000 in
theorem wk_X2_reckonPairs_b48 (Z : CSp) (w : Wd) (x1 : Int32) (x3 : Int32) (x4 : Int32) (s0 : Int32) (k11 : Int32 → Int32 → Int32 → Wd → Option (Int32 × Wd)) (hk11 : ∀ (x2 : Int32) (x3 : Int32) (x4 : Int32) (w : Wd), Wm (EC Z) MX2_reckonPairs oIw w 11 [(0, Value.ref (aC Z 1)), (1, Value.int x1), (2, Value.int x2), (3, Value.int x3), (4, Value.int x4)] [] (k11 x2 x3 x4 w)) : Wm (EC Z) MX2_reckonPairs oIw w 48 [(0, Value.ref (aC Z 1)), (1, Value.int x1), (3, Value.int x3), (4, Value.int x4)] [Value.int s0] (f_X2_reckonPairs_b48 x1 x3 x4 s0 k11 w) := by
  unfold f_X2_reckonPairs_b48
  refine r_istore_n (lv' := [(0, Value.ref (aC Z 1)), (1, Value.int x1), (2, Value.int s0), (3, Value.int x3), (4, Value.int x4)]) dX2_reckonPairs_48 (Nat.le_of_ble_eq_true rfl) [1, 2, 0, 3, 4] rfl ?_
  refine r_iload_n dX2_reckonPairs_49 3 rfl ?_
  refine r_aload_n dX2_reckonPairs_50 0 rfl ?_
  refine r_get FX2 7 (Nat.le_of_ble_eq_true rfl) kf_X2_81 1 (qC_1 Z w) rfl dX2_reckonPairs_51 ?_
  refine r_mmax km_X2_96 ⟨(Nat.le_of_ble_eq_true rfl), (Nat.le_of_ble_eq_true rfl)⟩ dX2_reckonPairs_54 ?_
  refine r_leti (fun y2 => ?_)
  refine r_istore_n (lv' := [(0, Value.ref (aC Z 1)), (1, Value.int x1), (2, Value.int s0), (3, Value.int y2), (4, Value.int x4)]) dX2_reckonPairs_57 (Nat.le_of_ble_eq_true rfl) [1, 2, 3, 0, 4] rfl ?_
  exact wk_X2_reckonPairs_b58 Z w x1 s0 y2 x4 k11 hk11
def f_X2_reckonPairs_b11 (x1 : Int32) : Nat → Int32 → Int32 → Int32 → Wd → Option (Int32 × Wd)
  | 0, _, _, _, _ => none
  | n + 1, x2, x3, x4, w =>
  if (3 : Int32) ≤ x4 then (if inb x1 32 = true then (wput w 3 (x1).toNatClampNeg x2 (fun w4 => if inb x1 32 = true then (wput w4 4 (x1).toNatClampNeg x3 (fun w5 => if x2 = (-10001 : Int32) then (f_X2_reckonPairs_b90 (5 : Int32) w5) else (f_X2_reckonPairs_b90 (4 : Int32) w5))) else none)) else none) else ((f_X2_search x4 w).bind (fun z6 => if z6.1 = 0 then (f_X2_reckonPairs_b58 x1 x2 x3 x4 (f_X2_reckonPairs_b11 x1 n) z6.2) else (if x2 = (-10001 : Int32) then (f_X2_reckonPairs_b48 x1 x3 x4 (z6.2.1 1 7) (f_X2_reckonPairs_b11 x1 n) z6.2) else (f_X2_reckonPairs_b48 x1 x3 x4 (if (z6.2.1 1 7) < x2 then (z6.2.1 1 7) else x2) (f_X2_reckonPairs_b11 x1 n) z6.2))))
set_option maxRecDepth 100000 in
set_option maxHeartbeats 4000000 in
theorem wk_X2_reckonPairs_b11 (Z : CSp) (x1 : Int32)  : ∀ (n : Nat) (x2 : Int32) (x3 : Int32) (x4 : Int32) (w : Wd), Wm (EC Z) MX2_reckonPairs oIw w 11 [(0, Value.ref (aC Z 1)), (1, Value.int x1), (2, Value.int x2), (3, Value.int x3), (4, Value.int x4)] [] (f_X2_reckonPairs_b11 x1 n x2 x3 x4 w) := by
  intro n
  induction n with
  | zero =>
    intro x2 x3 x4 w
    exact r_none
  | succ n ih =>
    intro x2 x3 x4 w
    rw [f_X2_reckonPairs_b11]
    refine r_iload dX2_reckonPairs_11 4 rfl ?_
    refine r_iconst (v := 3) dX2_reckonPairs_13 (by decide) ?_
    refine r_icmp_ge (tgt := 64) dX2_reckonPairs_14 (by decide) (fun _ => ?_) (fun _ => ?_)
    · refine r_aload_n dX2_reckonPairs_64 0 rfl ?_
      refine r_get FX2 2 (Nat.le_of_ble_eq_true rfl) kf_X2_22 1 (qC_1 Z w) rfl dX2_reckonPairs_65 ?_
      refine r_iload_n dX2_reckonPairs_68 1 rfl ?_
      refine r_iload_n dX2_reckonPairs_69 2 rfl ?_
      refine r_iast (qC_3 Z w) rfl (uC_3 Z w x2) dX2_reckonPairs_70 (fun w4 => ?_)
      refine r_aload_n dX2_reckonPairs_71 0 rfl ?_
      refine r_get FX2 3 (Nat.le_of_ble_eq_true rfl) kf_X2_25 1 (qC_1 Z w4) rfl dX2_reckonPairs_72 ?_
      refine r_iload_n dX2_reckonPairs_75 1 rfl ?_
      refine r_iload_n dX2_reckonPairs_76 3 rfl ?_
      refine r_iast (qC_4 Z w4) rfl (uC_4 Z w4 x3) dX2_reckonPairs_77 (fun w5 => ?_)
      refine r_iload_n dX2_reckonPairs_78 2 rfl ?_
      refine r_sipush (v := -10001) dX2_reckonPairs_79 (by decide) ?_
      refine r_icmp_ne (tgt := 89) dX2_reckonPairs_82 (by decide) (fun _ => ?_) (fun _ => ?_)
      · refine r_iconst (v := 4) dX2_reckonPairs_89 (by decide) ?_
        refine r_lv [] rfl ?_
        exact wk_X2_reckonPairs_b90 Z w5 (4 : Int32)
      · refine r_iconst (v := 5) dX2_reckonPairs_85 (by decide) ?_
        refine r_goto (tgt := 90) dX2_reckonPairs_86 (by decide) ?_
        refine r_lv [] rfl ?_
        exact wk_X2_reckonPairs_b90 Z w5 (5 : Int32)
    · refine r_aload_n dX2_reckonPairs_17 0 rfl ?_
      refine r_iload dX2_reckonPairs_18 4 rfl ?_
      refine r_callV_Iw [Value.int x4] cfX2_search (m_X2_search Z w x4) km_X2_77 ⟨rfl, rfl, (Nat.le_of_ble_eq_true rfl), (Nat.le_of_ble_eq_true rfl)⟩ rfl rfl 1 (qC_1 Z w) rfl rfl (Nat.le_of_ble_eq_true rfl) dX2_reckonPairs_20 (fun z6 => ?_)
      refine r_if_eq (tgt := 58) dX2_reckonPairs_23 (by decide) (fun _ => ?_) (fun _ => ?_)
      · exact wk_X2_reckonPairs_b58 Z z6.2 x1 x2 x3 x4 _ (ih)
      · refine r_iload_n dX2_reckonPairs_26 2 rfl ?_
        refine r_sipush (v := -10001) dX2_reckonPairs_27 (by decide) ?_
        refine r_icmp_ne (tgt := 40) dX2_reckonPairs_30 (by decide) (fun _ => ?_) (fun _ => ?_)
        · refine r_iload_n dX2_reckonPairs_40 2 rfl ?_
          refine r_aload_n dX2_reckonPairs_41 0 rfl ?_
          refine r_get FX2 7 (Nat.le_of_ble_eq_true rfl) kf_X2_81 1 (qC_1 Z z6.2) rfl dX2_reckonPairs_42 ?_
          refine r_mmin km_X2_91 ⟨(Nat.le_of_ble_eq_true rfl), (Nat.le_of_ble_eq_true rfl)⟩ dX2_reckonPairs_45 ?_
          refine r_lv [0, 1, 3, 4] rfl ?_
          exact wk_X2_reckonPairs_b48 Z z6.2 x1 x3 x4 (if (z6.2.1 1 7) < x2 then (z6.2.1 1 7) else x2) _ (ih)
        · refine r_aload_n dX2_reckonPairs_33 0 rfl ?_
          refine r_get FX2 7 (Nat.le_of_ble_eq_true rfl) kf_X2_81 1 (qC_1 Z z6.2) rfl dX2_reckonPairs_34 ?_
          refine r_goto (tgt := 48) dX2_reckonPairs_37 (by decide) ?_
          refine r_lv [0, 1, 3, 4] rfl ?_
          exact wk_X2_reckonPairs_b48 Z z6.2 x1 x3 x4 (z6.2.1 1 7) _ (ih)
def f_X2_reckonPairs (x1 : Int32) (w : Wd) : Option (Int32 × Wd) :=
  f_X2_reckonPairs_b11 x1 FUEL (-10001 : Int32) (-10001 : Int32) (0 : Int32) w
set_option maxRecDepth 100000 in
set_option maxHeartbeats 4000000 in
theorem wk_X2_reckonPairs (Z : CSp) (w : Wd) (x1 : Int32)  : Wm (EC Z) MX2_reckonPairs oIw w 0 [(0, Value.ref (aC Z 1)), (1, Value.int x1)] [] (f_X2_reckonPairs x1 w) := by
  unfold f_X2_reckonPairs
  refine r_sipush (v := -10001) dX2_reckonPairs_0 (by decide) ?_
  refine r_istore_n (lv' := [(0, Value.ref (aC Z 1)), (1, Value.int x1), (2, Value.int (-10001 : Int32))]) dX2_reckonPairs_3 (Nat.le_of_ble_eq_true rfl) [1, 2, 0] rfl ?_
  refine r_sipush (v := -10001) dX2_reckonPairs_4 (by decide) ?_
  refine r_istore_n (lv' := [(0, Value.ref (aC Z 1)), (1, Value.int x1), (2, Value.int (-10001 : Int32)), (3, Value.int (-10001 : Int32))]) dX2_reckonPairs_7 (Nat.le_of_ble_eq_true rfl) [1, 2, 3, 0] rfl ?_
  refine r_iconst (v := 0) dX2_reckonPairs_8 (by decide) ?_
  refine r_istore (lv' := [(0, Value.ref (aC Z 1)), (1, Value.int x1), (2, Value.int (-10001 : Int32)), (3, Value.int (-10001 : Int32)), (4, Value.int (0 : Int32))]) dX2_reckonPairs_9 (Nat.le_of_ble_eq_true rfl) [1, 2, 3, 4, 0] rfl ?_
  exact wk_X2_reckonPairs_b11 Z x1 FUEL (-10001 : Int32) (-10001 : Int32) (0 : Int32) w
theorem m_X2_reckonPairs (Z : CSp) (w : Wd) (x1 : Int32) : MetM (EC Z) yX2_reckonPairs cX2_reckonPairs 5 (some .int) { frames := 3, cells := 0, slots := 0, locals := 75 } oIw [Value.ref (aC Z 1), Value.int x1] w (f_X2_reckonPairs x1 w) := MetM_of (plainFor_of_name (by decide)) (Nat.le_of_ble_eq_true rfl) (wk_X2_reckonPairs Z w x1)
abbrev MX2_markOf : Mt := (cX2_markOf, RX2, 3, some .int, { frames := 4, cells := 0, slots := 0, locals := 99 })
def f_X2_markOf_b48 (x1 : Int32) (w : Wd) : Option (Int32 × Wd) :=
  if inb x1 32 = true then (some ((w.1 2 (x1).toNatClampNeg), w)) else none
set_option maxRecDepth 100000 in
set_option maxHeartbeats 4000000 in
theorem wk_X2_markOf_b48 (Z : CSp) (w : Wd) (x1 : Int32)  : Wm (EC Z) MX2_markOf oIw w 48 [(0, Value.ref (aC Z 1)), (1, Value.int x1)] [] (f_X2_markOf_b48 x1 w) := by
  unfold f_X2_markOf_b48
  refine r_aload_n dX2_markOf_48 0 rfl ?_
  refine r_get FX2 1 (Nat.le_of_ble_eq_true rfl) kf_X2_18 1 (qC_1 Z w) rfl dX2_markOf_49 ?_
  refine r_iload_n dX2_markOf_52 1 rfl ?_
  refine r_iald 2 (qC_2 Z w) rfl dX2_markOf_53 ?_
  exact r_iretw rfl dX2_markOf_54
def f_X2_markOf_b47 (x1 : Int32) (s0 : Int32) (s1 : Int32) (w : Wd) : Option (Int32 × Wd) :=
  if inb s1 32 = true then (wput w 2 (s1).toNatClampNeg s0 (fun w2 => f_X2_markOf_b48 x1 w2)) else none
set_option maxRecDepth 100000 in
set_option maxHeartbeats 4000000 in
theorem wk_X2_markOf_b47 (Z : CSp) (w : Wd) (x1 : Int32) (s0 : Int32) (s1 : Int32)  : Wm (EC Z) MX2_markOf oIw w 47 [(0, Value.ref (aC Z 1)), (1, Value.int x1)] [Value.int s0, Value.int s1, Value.ref (aC Z 2)] (f_X2_markOf_b47 x1 s0 s1 w) := by
  unfold f_X2_markOf_b47
  refine r_iast (qC_2 Z w) rfl (uC_2 Z w s0) dX2_markOf_47 (fun w2 => ?_)
  exact wk_X2_markOf_b48 Z w2 x1
def f_X2_markOf (x1 : Int32) (w : Wd) : Option (Int32 × Wd) :=
  (f_X5_within x1 (0 : Int32) (31 : Int32)).bind (fun v1 => if v1 = 0 then (some ((5 : Int32), w)) else (if inb x1 32 = true then (if (w.1 2 (x1).toNatClampNeg) = (-1 : Int32) then ((f_X2_reckon x1 w).bind (fun z2 => if z2.1 = (5 : Int32) then ((f_X2_reckonPairs x1 z2.2).bind (fun z3 => f_X2_markOf_b47 x1 z3.1 x1 z3.2)) else (f_X2_markOf_b47 x1 z2.1 x1 z2.2))) else (f_X2_markOf_b48 x1 w)) else none))
set_option maxRecDepth 100000 in
set_option maxHeartbeats 4000000 in
theorem wk_X2_markOf (Z : CSp) (w : Wd) (x1 : Int32)  : Wm (EC Z) MX2_markOf oIw w 0 [(0, Value.ref (aC Z 1)), (1, Value.int x1)] [] (f_X2_markOf x1 w) := by
  unfold f_X2_markOf
  refine r_iload_n dX2_markOf_0 1 rfl ?_
  refine r_iconst (v := 0) dX2_markOf_1 (by decide) ?_
  refine r_bipush (v := 31) dX2_markOf_2 (by decide) ?_
  refine r_callSN_I [Value.int x1, Value.int (0 : Int32), Value.int (31 : Int32)] cfX5_within (m_X5_within Z w x1 (0 : Int32) (31 : Int32)) (n_X2_37 Z) ⟨rfl, rfl, (Nat.le_of_ble_eq_true rfl), (Nat.le_of_ble_eq_true rfl)⟩ rfl rfl (Nat.le_of_ble_eq_true rfl) dX2_markOf_4 (fun v1 => ?_)
  refine r_if_ne (tgt := 12) dX2_markOf_7 (by decide) (fun _ => ?_) (fun _ => ?_)
  · refine r_aload_n dX2_markOf_12 0 rfl ?_
    refine r_get FX2 1 (Nat.le_of_ble_eq_true rfl) kf_X2_18 1 (qC_1 Z w) rfl dX2_markOf_13 ?_
    refine r_iload_n dX2_markOf_16 1 rfl ?_
    refine r_iald 2 (qC_2 Z w) rfl dX2_markOf_17 ?_
    refine r_iconst (v := -1) dX2_markOf_18 (by decide) ?_
    refine r_icmp_ne (tgt := 48) dX2_markOf_19 (by decide) (fun _ => ?_) (fun _ => ?_)
    · exact wk_X2_markOf_b48 Z w x1
    · refine r_aload_n dX2_markOf_22 0 rfl ?_
      refine r_iload_n dX2_markOf_23 1 rfl ?_
      refine r_callV_Iw [Value.int x1] cfX2_reckon (m_X2_reckon Z w x1) km_X2_41 ⟨rfl, rfl, (Nat.le_of_ble_eq_true rfl), (Nat.le_of_ble_eq_true rfl)⟩ rfl rfl 1 (qC_1 Z w) rfl rfl (Nat.le_of_ble_eq_true rfl) dX2_markOf_24 (fun z2 => ?_)
      refine r_istore_n (lv' := [(0, Value.ref (aC Z 1)), (1, Value.int x1), (2, Value.int z2.1)]) dX2_markOf_27 (Nat.le_of_ble_eq_true rfl) [1, 2, 0] rfl ?_
      refine r_aload_n dX2_markOf_28 0 rfl ?_
      refine r_get FX2 1 (Nat.le_of_ble_eq_true rfl) kf_X2_18 1 (qC_1 Z z2.2) rfl dX2_markOf_29 ?_
      refine r_iload_n dX2_markOf_32 1 rfl ?_
      refine r_iload_n dX2_markOf_33 2 rfl ?_
      refine r_iconst (v := 5) dX2_markOf_34 (by decide) ?_
      refine r_icmp_ne (tgt := 46) dX2_markOf_35 (by decide) (fun _ => ?_) (fun _ => ?_)
      · refine r_iload_n dX2_markOf_46 2 rfl ?_
        refine r_lv [0, 1] rfl ?_
        exact wk_X2_markOf_b47 Z z2.2 x1 z2.1 x1
      · refine r_aload_n dX2_markOf_38 0 rfl ?_
        refine r_iload_n dX2_markOf_39 1 rfl ?_
        refine r_callV_Iw [Value.int x1] cfX2_reckonPairs (m_X2_reckonPairs Z z2.2 x1) km_X2_45 ⟨rfl, rfl, (Nat.le_of_ble_eq_true rfl), (Nat.le_of_ble_eq_true rfl)⟩ rfl rfl 1 (qC_1 Z z2.2) rfl rfl (Nat.le_of_ble_eq_true rfl) dX2_markOf_40 (fun z3 => ?_)
        refine r_goto (tgt := 47) dX2_markOf_43 (by decide) ?_
        refine r_lv [0, 1] rfl ?_
        exact wk_X2_markOf_b47 Z z3.2 x1 z3.1 x1
  · refine r_iconst (v := 5) dX2_markOf_10 (by decide) ?_
    exact r_iretw rfl dX2_markOf_11
theorem m_X2_markOf (Z : CSp) (w : Wd) (x1 : Int32) : MetM (EC Z) yX2_markOf cX2_markOf 3 (some .int) { frames := 4, cells := 0, slots := 0, locals := 99 } oIw [Value.ref (aC Z 1), Value.int x1] w (f_X2_markOf x1 w) := MetM_of (plainFor_of_name (by decide)) (Nat.le_of_ble_eq_true rfl) (wk_X2_markOf Z w x1)
abbrev MX2_beyondOf : Mt := (cX2_beyondOf, RX2, 2, some .int, { frames := 5, cells := 0, slots := 0, locals := 121 })
def f_X2_beyondOf_b21 (s0 : Int32) (w : Wd) : Option (Int32 × Wd) :=
  some (s0, w)
set_option maxRecDepth 100000 in
set_option maxHeartbeats 4000000 in
theorem wk_X2_beyondOf_b21 (Z : CSp) (w : Wd) (s0 : Int32)  : Wm (EC Z) MX2_beyondOf oIw w 21 [] [Value.int s0] (f_X2_beyondOf_b21 s0 w) := by
  unfold f_X2_beyondOf_b21
  exact r_iretw rfl dX2_beyondOf_21
def f_X2_beyondOf (x1 : Int32) (w : Wd) : Option (Int32 × Wd) :=
  (f_X2_markOf x1 w).bind (fun z1 => if z1.1 = (4 : Int32) then (if inb x1 32 = true then (f_X2_beyondOf_b21 (z1.2.1 4 (x1).toNatClampNeg) z1.2) else none) else (f_X2_beyondOf_b21 (-10001 : Int32) z1.2))
set_option maxRecDepth 100000 in
set_option maxHeartbeats 4000000 in
theorem wk_X2_beyondOf (Z : CSp) (w : Wd) (x1 : Int32)  : Wm (EC Z) MX2_beyondOf oIw w 0 [(0, Value.ref (aC Z 1)), (1, Value.int x1)] [] (f_X2_beyondOf x1 w) := by
  unfold f_X2_beyondOf
  refine r_aload_n dX2_beyondOf_0 0 rfl ?_
  refine r_iload_n dX2_beyondOf_1 1 rfl ?_
  refine r_callV_Iw [Value.int x1] cfX2_markOf (m_X2_markOf Z w x1) km_X2_48 ⟨rfl, rfl, (Nat.le_of_ble_eq_true rfl), (Nat.le_of_ble_eq_true rfl)⟩ rfl rfl 1 (qC_1 Z w) rfl rfl (Nat.le_of_ble_eq_true rfl) dX2_beyondOf_2 (fun z1 => ?_)
  refine r_iconst (v := 4) dX2_beyondOf_5 (by decide) ?_
  refine r_icmp_ne (tgt := 18) dX2_beyondOf_6 (by decide) (fun _ => ?_) (fun _ => ?_)
  · refine r_sipush (v := -10001) dX2_beyondOf_18 (by decide) ?_
    refine r_lv [] rfl ?_
    exact wk_X2_beyondOf_b21 Z z1.2 (-10001 : Int32)
  · refine r_aload_n dX2_beyondOf_9 0 rfl ?_
    refine r_get FX2 3 (Nat.le_of_ble_eq_true rfl) kf_X2_25 1 (qC_1 Z z1.2) rfl dX2_beyondOf_10 ?_
    refine r_iload_n dX2_beyondOf_13 1 rfl ?_
    refine r_iald 4 (qC_4 Z z1.2) rfl dX2_beyondOf_14 ?_
    refine r_goto (tgt := 21) dX2_beyondOf_15 (by decide) ?_
    refine r_lv [] rfl ?_
    exact wk_X2_beyondOf_b21 Z z1.2 (z1.2.1 4 (x1).toNatClampNeg)
theorem m_X2_beyondOf (Z : CSp) (w : Wd) (x1 : Int32) : MetM (EC Z) yX2_beyondOf cX2_beyondOf 2 (some .int) { frames := 5, cells := 0, slots := 0, locals := 121 } oIw [Value.ref (aC Z 1), Value.int x1] w (f_X2_beyondOf x1 w) := MetM_of (plainFor_of_name (by decide)) (Nat.le_of_ble_eq_true rfl) (wk_X2_beyondOf Z w x1)
abbrev MX2_distanceOf : Mt := (cX2_distanceOf, RX2, 2, some .int, { frames := 5, cells := 0, slots := 0, locals := 121 })
def f_X2_distanceOf_b20 (s0 : Int32) (w : Wd) : Option (Int32 × Wd) :=
  some (s0, w)
set_option maxRecDepth 100000 in
set_option maxHeartbeats 4000000 in
theorem wk_X2_distanceOf_b20 (Z : CSp) (w : Wd) (s0 : Int32)  : Wm (EC Z) MX2_distanceOf oIw w 20 [] [Value.int s0] (f_X2_distanceOf_b20 s0 w) := by
  unfold f_X2_distanceOf_b20
  exact r_iretw rfl dX2_distanceOf_20
def f_X2_distanceOf (x1 : Int32) (w : Wd) : Option (Int32 × Wd) :=
  (f_X2_markOf x1 w).bind (fun z1 => if z1.1 = 0 then (if inb x1 32 = true then (f_X2_distanceOf_b20 (z1.2.1 3 (x1).toNatClampNeg) z1.2) else none) else (f_X2_distanceOf_b20 (-10001 : Int32) z1.2))
set_option maxRecDepth 100000 in
set_option maxHeartbeats 4000000 in
theorem wk_X2_distanceOf (Z : CSp) (w : Wd) (x1 : Int32)  : Wm (EC Z) MX2_distanceOf oIw w 0 [(0, Value.ref (aC Z 1)), (1, Value.int x1)] [] (f_X2_distanceOf x1 w) := by
  unfold f_X2_distanceOf
  refine r_aload_n dX2_distanceOf_0 0 rfl ?_
  refine r_iload_n dX2_distanceOf_1 1 rfl ?_
  refine r_callV_Iw [Value.int x1] cfX2_markOf (m_X2_markOf Z w x1) km_X2_48 ⟨rfl, rfl, (Nat.le_of_ble_eq_true rfl), (Nat.le_of_ble_eq_true rfl)⟩ rfl rfl 1 (qC_1 Z w) rfl rfl (Nat.le_of_ble_eq_true rfl) dX2_distanceOf_2 (fun z1 => ?_)
  refine r_if_ne (tgt := 17) dX2_distanceOf_5 (by decide) (fun _ => ?_) (fun _ => ?_)
  · refine r_sipush (v := -10001) dX2_distanceOf_17 (by decide) ?_
    refine r_lv [] rfl ?_
    exact wk_X2_distanceOf_b20 Z z1.2 (-10001 : Int32)
  · refine r_aload_n dX2_distanceOf_8 0 rfl ?_
    refine r_get FX2 2 (Nat.le_of_ble_eq_true rfl) kf_X2_22 1 (qC_1 Z z1.2) rfl dX2_distanceOf_9 ?_
    refine r_iload_n dX2_distanceOf_12 1 rfl ?_
    refine r_iald 3 (qC_3 Z z1.2) rfl dX2_distanceOf_13 ?_
    refine r_goto (tgt := 20) dX2_distanceOf_14 (by decide) ?_
    refine r_lv [] rfl ?_
    exact wk_X2_distanceOf_b20 Z z1.2 (z1.2.1 3 (x1).toNatClampNeg)
theorem m_X2_distanceOf (Z : CSp) (w : Wd) (x1 : Int32) : MetM (EC Z) yX2_distanceOf cX2_distanceOf 2 (some .int) { frames := 5, cells := 0, slots := 0, locals := 121 } oIw [Value.ref (aC Z 1), Value.int x1] w (f_X2_distanceOf x1 w) := MetM_of (plainFor_of_name (by decide)) (Nat.le_of_ble_eq_true rfl) (wk_X2_distanceOf Z w x1)
abbrev MX2_filled : Mt := (cX2_filled, RX2, 12, some .int, { frames := 5, cells := 0, slots := 0, locals := 121 })
def f_X2_filled_b200 (s0 : Int32) (w : Wd) : Option (Int32 × Wd) :=
  some (s0, w)
set_option maxRecDepth 100000 in
set_option maxHeartbeats 4000000 in
theorem wk_X2_filled_b200 (Z : CSp) (w : Wd) (s0 : Int32)  : Wm (EC Z) MX2_filled oIw w 200 [] [Value.int s0] (f_X2_filled_b200 s0 w) := by
  unfold f_X2_filled_b200
  exact r_iretw rfl dX2_filled_200
def f_X2_filled_b175 (x1 : Int32) (x2 : Int32) (x3 : Int32) (x4 : UInt32) (x5 : Int32) (x6 : UInt32) (x7 : UInt32) (x8 : Int32) (k39 : UInt32 → UInt32 → Int32 → Wd → Option (Int32 × Wd)) (w : Wd) : Option (Int32 × Wd) :=
  k39 x6 x7 (x8 + 1) w
set_option maxRecDepth 100000 in
set_option maxHeartbeats 4000000 in
theorem wk_X2_filled_b175 (Z : CSp) (w : Wd) (x1 : Int32) (x2 : Int32) (x3 : Int32) (x4 : UInt32) (x5 : Int32) (x6 : UInt32) (x7 : UInt32) (x8 : Int32) (k39 : UInt32 → UInt32 → Int32 → Wd → Option (Int32 × Wd)) (hk39 : ∀ (x6 : UInt32) (x7 : UInt32) (x8 : Int32) (w : Wd), Wm (EC Z) MX2_filled oIw w 39 [(0, Value.ref (aC Z 1)), (1, Value.int x1), (2, Value.int x2), (3, Value.int x3), (4, Value.float x4), (5, Value.int x5), (6, Value.float x6), (7, Value.float x7), (8, Value.int x8)] [] (k39 x6 x7 x8 w)) : Wm (EC Z) MX2_filled oIw w 175 [(0, Value.ref (aC Z 1)), (1, Value.int x1), (2, Value.int x2), (3, Value.int x3), (4, Value.float x4), (5, Value.int x5), (6, Value.float x6), (7, Value.float x7), (8, Value.int x8)] [] (f_X2_filled_b175 x1 x2 x3 x4 x5 x6 x7 x8 k39 w) := by
  unfold f_X2_filled_b175
  refine r_iinc (lv' := [(0, Value.ref (aC Z 1)), (1, Value.int x1), (2, Value.int x2), (3, Value.int x3), (4, Value.float x4), (5, Value.int x5), (6, Value.float x6), (7, Value.float x7), (8, Value.int (x8 + 1))]) dX2_filled_175 8 rfl (by rfl) (Nat.le_of_ble_eq_true rfl) [1, 2, 3, 4, 5, 6, 7, 8, 0] rfl ?_
  refine r_goto (tgt := 39) dX2_filled_178 (by decide) ?_
  exact hk39 x6 x7 (x8 + 1) w
def f_X2_filled_b126 (x1 : Int32) (x2 : Int32) (x3 : Int32) (x4 : UInt32) (x5 : Int32) (x6 : UInt32) (x7 : UInt32) (x8 : Int32) (x9 : Int32) (s0 : UInt32) (k39 : UInt32 → UInt32 → Int32 → Wd → Option (Int32 × Wd)) (w : Wd) : Option (Int32 × Wd) :=
  if nn32 (FP.fmul (1082130432 : UInt32) (FP.i2f x5)) = true then (if 0 < (fcg s0 (FP.fmul (1082130432 : UInt32) (FP.i2f x5))) then (f_X2_filled_b175 x1 x2 x3 x4 x5 x6 x7 x8 k39 w) else (if nn32 (FP.fdiv s0 (FP.i2f x5)) = true then (if nn32 (FP.fadd FP.fconst1 (FP.fdiv s0 (FP.i2f x5))) = true then (if nn32 (FP.fdiv FP.fconst1 (FP.fadd FP.fconst1 (FP.fdiv s0 (FP.i2f x5)))) = true then (jlet (FP.fdiv FP.fconst1 (FP.fadd FP.fconst1 (FP.fdiv s0 (FP.i2f x5)))) (fun y4 => if nn32 (FP.fadd x6 y4) = true then (jlet (FP.fadd x6 y4) (fun y5 => if inb x9 32 = true then (if nn32 (FP.fmul y4 (FP.i2f (w.1 3 (x9).toNatClampNeg))) = true then (if nn32 (FP.fadd x7 (FP.fmul y4 (FP.i2f (w.1 3 (x9).toNatClampNeg)))) = true then (jlet (FP.fadd x7 (FP.fmul y4 (FP.i2f (w.1 3 (x9).toNatClampNeg)))) (fun y6 => f_X2_filled_b175 x1 x2 x3 x4 x5 y5 y6 x8 k39 w)) else none) else none) else none)) else none)) else none) else none) else none)) else none
set_option maxRecDepth 100000 in
set_option maxHeartbeats 4000000 in
theorem wk_X2_filled_b126 (Z : CSp) (w : Wd) (x1 : Int32) (x2 : Int32) (x3 : Int32) (x4 : UInt32) (x5 : Int32) (x6 : UInt32) (x7 : UInt32) (x8 : Int32) (x9 : Int32) (s0 : UInt32) (k39 : UInt32 → UInt32 → Int32 → Wd → Option (Int32 × Wd)) (hk39 : ∀ (x6 : UInt32) (x7 : UInt32) (x8 : Int32) (w : Wd), Wm (EC Z) MX2_filled oIw w 39 [(0, Value.ref (aC Z 1)), (1, Value.int x1), (2, Value.int x2), (3, Value.int x3), (4, Value.float x4), (5, Value.int x5), (6, Value.float x6), (7, Value.float x7), (8, Value.int x8)] [] (k39 x6 x7 x8 w)) : Wm (EC Z) MX2_filled oIw w 126 [(0, Value.ref (aC Z 1)), (1, Value.int x1), (2, Value.int x2), (3, Value.int x3), (4, Value.float x4), (5, Value.int x5), (6, Value.float x6), (7, Value.float x7), (8, Value.int x8), (9, Value.int x9)] [Value.float s0] (f_X2_filled_b126 x1 x2 x3 x4 x5 x6 x7 x8 x9 s0 k39 w) := by
  unfold f_X2_filled_b126
  refine r_fstore (lv' := [(0, Value.ref (aC Z 1)), (1, Value.int x1), (2, Value.int x2), (3, Value.int x3), (4, Value.float x4), (5, Value.int x5), (6, Value.float x6), (7, Value.float x7), (8, Value.int x8), (9, Value.int x9), (10, Value.float s0)]) dX2_filled_126 (Nat.le_of_ble_eq_true rfl) [1, 2, 3, 4, 5, 6, 7, 8, 9, 10, 0] rfl ?_
  refine r_fload dX2_filled_128 10 rfl ?_
  refine r_ldcf dX2_filled_130 kk_X2_128 ?_
  refine r_iload dX2_filled_132 5 rfl ?_
  refine r_i2f dX2_filled_134 ?_
  refine r_fmul dX2_filled_135 ?_
  refine r_fcmpg dX2_filled_136 ?_
  refine r_if_gt (tgt := 175) dX2_filled_137 (by decide) (fun _ => ?_) (fun _ => ?_)
  · refine r_lv [0, 1, 2, 3, 4, 5, 6, 7, 8] rfl ?_
    exact wk_X2_filled_b175 Z w x1 x2 x3 x4 x5 x6 x7 x8 k39 hk39
  · refine r_fconst1 dX2_filled_140 ?_
    refine r_fconst1 dX2_filled_141 ?_
    refine r_fload dX2_filled_142 10 rfl ?_
    refine r_iload dX2_filled_144 5 rfl ?_
    refine r_i2f dX2_filled_146 ?_
    refine r_fdiv dX2_filled_147 ?_
    refine r_fadd dX2_filled_148 ?_
    refine r_fdiv dX2_filled_149 ?_
    refine r_letf (fun y4 => ?_)
    refine r_fstore (lv' := [(0, Value.ref (aC Z 1)), (1, Value.int x1), (2, Value.int x2), (3, Value.int x3), (4, Value.float x4), (5, Value.int x5), (6, Value.float x6), (7, Value.float x7), (8, Value.int x8), (9, Value.int x9), (10, Value.float s0), (11, Value.float y4)]) dX2_filled_150 (Nat.le_of_ble_eq_true rfl) [1, 2, 3, 4, 5, 6, 7, 8, 9, 10, 11, 0] rfl ?_
    refine r_fload dX2_filled_152 6 rfl ?_
    refine r_fload dX2_filled_154 11 rfl ?_
    refine r_fadd dX2_filled_156 ?_
    refine r_letf (fun y5 => ?_)
    refine r_fstore (lv' := [(0, Value.ref (aC Z 1)), (1, Value.int x1), (2, Value.int x2), (3, Value.int x3), (4, Value.float x4), (5, Value.int x5), (6, Value.float y5), (7, Value.float x7), (8, Value.int x8), (9, Value.int x9), (10, Value.float s0), (11, Value.float y4)]) dX2_filled_157 (Nat.le_of_ble_eq_true rfl) [1, 2, 3, 4, 5, 6, 0, 7, 8, 9, 10, 11] rfl ?_
    refine r_fload dX2_filled_159 7 rfl ?_
    refine r_fload dX2_filled_161 11 rfl ?_
    refine r_aload_n dX2_filled_163 0 rfl ?_
    refine r_get FX2 2 (Nat.le_of_ble_eq_true rfl) kf_X2_22 1 (qC_1 Z w) rfl dX2_filled_164 ?_
    refine r_iload dX2_filled_167 9 rfl ?_
    refine r_iald 3 (qC_3 Z w) rfl dX2_filled_169 ?_
    refine r_i2f dX2_filled_170 ?_
    refine r_fmul dX2_filled_171 ?_
    refine r_fadd dX2_filled_172 ?_
    refine r_letf (fun y6 => ?_)
    refine r_fstore (lv' := [(0, Value.ref (aC Z 1)), (1, Value.int x1), (2, Value.int x2), (3, Value.int x3), (4, Value.float x4), (5, Value.int x5), (6, Value.float y5), (7, Value.float y6), (8, Value.int x8), (9, Value.int x9), (10, Value.float s0), (11, Value.float y4)]) dX2_filled_173 (Nat.le_of_ble_eq_true rfl) [1, 2, 3, 4, 5, 6, 7, 0, 8, 9, 10, 11] rfl ?_
    refine r_lv [0, 1, 2, 3, 4, 5, 6, 7, 8] rfl ?_
    exact wk_X2_filled_b175 Z w x1 x2 x3 x4 x5 y5 y6 x8 k39 hk39
def f_X2_filled_b39 (x1 : Int32) (x2 : Int32) (x3 : Int32) (x4 : UInt32) (x5 : Int32) : Nat → UInt32 → UInt32 → Int32 → Wd → Option (Int32 × Wd)
  | 0, _, _, _, _ => none
  | n + 1, x6, x7, x8, w =>
  if (4 : Int32) ≤ x8 then (if (fcl x6 FP.fconst0) ≤ 0 then (f_X2_filled_b200 (-10001 : Int32) w) else (if nn32 (FP.fdiv x7 x6) = true then (f_X2_filled_b200 (FP.f2i (FP.fdiv x7 x6)) w) else none)) else (if inb x8 4 = true then (if inb x8 4 = true then ((f_X4_place x1 (x2 + (fBx (x8).toNatClampNeg)) (x3 + (fBy (x8).toNatClampNeg)) w).bind (fun v5 => if v5 < 0 then (f_X2_filled_b175 x1 x2 x3 x4 x5 x6 x7 x8 (f_X2_filled_b39 x1 x2 x3 x4 x5 n) w) else (if x5 < (1 : Int32) then (f_X2_filled_b175 x1 x2 x3 x4 x5 x6 x7 x8 (f_X2_filled_b39 x1 x2 x3 x4 x5 n) w) else ((f_X2_markOf v5 w).bind (fun z6 => if z6.1 = 0 then ((f_X4_brightness v5 z6.2).bind (fun v7 => if nn32 (FP.fsub v7 x4) = true then (jlet (FP.fsub v7 x4) (fun y8 => if 0 ≤ (fcg y8 FP.fconst0) then (f_X2_filled_b126 x1 x2 x3 x4 x5 x6 x7 x8 v5 y8 (f_X2_filled_b39 x1 x2 x3 x4 x5 n) z6.2) else (f_X2_filled_b126 x1 x2 x3 x4 x5 x6 x7 x8 v5 (FP.fneg y8) (f_X2_filled_b39 x1 x2 x3 x4 x5 n) z6.2))) else none)) else (f_X2_filled_b175 x1 x2 x3 x4 x5 x6 x7 x8 (f_X2_filled_b39 x1 x2 x3 x4 x5 n) z6.2)))))) else none) else none)
set_option maxRecDepth 100000 in
set_option maxHeartbeats 4000000 in
theorem wk_X2_filled_b39 (Z : CSp) (x1 : Int32) (x2 : Int32) (x3 : Int32) (x4 : UInt32) (x5 : Int32)  : ∀ (n : Nat) (x6 : UInt32) (x7 : UInt32) (x8 : Int32) (w : Wd), Wm (EC Z) MX2_filled oIw w 39 [(0, Value.ref (aC Z 1)), (1, Value.int x1), (2, Value.int x2), (3, Value.int x3), (4, Value.float x4), (5, Value.int x5), (6, Value.float x6), (7, Value.float x7), (8, Value.int x8)] [] (f_X2_filled_b39 x1 x2 x3 x4 x5 n x6 x7 x8 w) := by
  intro n
  induction n with
  | zero =>
    intro x6 x7 x8 w
    exact r_none
  | succ n ih =>
    intro x6 x7 x8 w
    rw [f_X2_filled_b39]
    refine r_iload dX2_filled_39 8 rfl ?_
    refine r_getsN (s_bx Z) (n_X2_122 Z) dX2_filled_41 ?_
    refine r_salen (v := 4) (s_bx Z) (by decide) dX2_filled_44 ?_
    refine r_icmp_ge (tgt := 181) dX2_filled_45 (by decide) (fun _ => ?_) (fun _ => ?_)
    · refine r_fload dX2_filled_181 6 rfl ?_
      refine r_fconst0 dX2_filled_183 ?_
      refine r_fcmpl dX2_filled_184 ?_
      refine r_if_le (tgt := 197) dX2_filled_185 (by decide) (fun _ => ?_) (fun _ => ?_)
      · refine r_sipush (v := -10001) dX2_filled_197 (by decide) ?_
        refine r_lv [] rfl ?_
        exact wk_X2_filled_b200 Z w (-10001 : Int32)
      · refine r_fload dX2_filled_188 7 rfl ?_
        refine r_fload dX2_filled_190 6 rfl ?_
        refine r_fdiv dX2_filled_192 ?_
        refine r_f2i dX2_filled_193 ?_
        refine r_goto (tgt := 200) dX2_filled_194 (by decide) ?_
        refine r_lv [] rfl ?_
        exact wk_X2_filled_b200 Z w (FP.f2i (FP.fdiv x7 x6))
    · refine r_aload_n dX2_filled_48 0 rfl ?_
      refine r_get FX2 0 (Nat.le_of_ble_eq_true rfl) kf_X2_12 1 (qC_1 Z w) rfl dX2_filled_49 ?_
      refine r_iload_n dX2_filled_52 1 rfl ?_
      refine r_iload_n dX2_filled_53 2 rfl ?_
      refine r_getsN (s_bx Z) (n_X2_122 Z) dX2_filled_54 ?_
      refine r_iload dX2_filled_57 8 rfl ?_
      refine r_sald (s_bx Z) dX2_filled_59 ?_
      refine r_iadd dX2_filled_60 ?_
      refine r_iload_n dX2_filled_61 3 rfl ?_
      refine r_getsN (s_by Z) (n_X2_125 Z) dX2_filled_62 ?_
      refine r_iload dX2_filled_65 8 rfl ?_
      refine r_sald (s_by Z) dX2_filled_67 ?_
      refine r_iadd dX2_filled_68 ?_
      refine r_callV_I [Value.int x1, Value.int (x2 + (fBx (x8).toNatClampNeg)), Value.int (x3 + (fBy (x8).toNatClampNeg))] cfX4_place (m_X4_place Z w x1 (x2 + (fBx (x8).toNatClampNeg)) (x3 + (fBy (x8).toNatClampNeg))) km_X2_115 ⟨rfl, rfl, (Nat.le_of_ble_eq_true rfl), (Nat.le_of_ble_eq_true rfl)⟩ rfl rfl 10 (qC_10 Z w) rfl rfl (Nat.le_of_ble_eq_true rfl) dX2_filled_69 (fun v5 => ?_)
      refine r_istore (lv' := [(0, Value.ref (aC Z 1)), (1, Value.int x1), (2, Value.int x2), (3, Value.int x3), (4, Value.float x4), (5, Value.int x5), (6, Value.float x6), (7, Value.float x7), (8, Value.int x8), (9, Value.int v5)]) dX2_filled_72 (Nat.le_of_ble_eq_true rfl) [1, 2, 3, 4, 5, 6, 7, 8, 9, 0] rfl ?_
      refine r_iload dX2_filled_74 9 rfl ?_
      refine r_if_lt (tgt := 175) dX2_filled_76 (by decide) (fun _ => ?_) (fun _ => ?_)
      · refine r_lv [0, 1, 2, 3, 4, 5, 6, 7, 8] rfl ?_
        exact wk_X2_filled_b175 Z w x1 x2 x3 x4 x5 x6 x7 x8 _ (ih)
      · refine r_iload dX2_filled_79 5 rfl ?_
        refine r_iconst (v := 1) dX2_filled_81 (by decide) ?_
        refine r_icmp_lt (tgt := 175) dX2_filled_82 (by decide) (fun _ => ?_) (fun _ => ?_)
        · refine r_lv [0, 1, 2, 3, 4, 5, 6, 7, 8] rfl ?_
          exact wk_X2_filled_b175 Z w x1 x2 x3 x4 x5 x6 x7 x8 _ (ih)
        · refine r_aload_n dX2_filled_85 0 rfl ?_
          refine r_iload dX2_filled_86 9 rfl ?_
          refine r_callV_Iw [Value.int v5] cfX2_markOf (m_X2_markOf Z w v5) km_X2_48 ⟨rfl, rfl, (Nat.le_of_ble_eq_true rfl), (Nat.le_of_ble_eq_true rfl)⟩ rfl rfl 1 (qC_1 Z w) rfl rfl (Nat.le_of_ble_eq_true rfl) dX2_filled_88 (fun z6 => ?_)
          refine r_if_eq (tgt := 97) dX2_filled_91 (by decide) (fun _ => ?_) (fun _ => ?_)
          · refine r_aload_n dX2_filled_97 0 rfl ?_
            refine r_get FX2 0 (Nat.le_of_ble_eq_true rfl) kf_X2_12 1 (qC_1 Z z6.2) rfl dX2_filled_98 ?_
            refine r_iload dX2_filled_101 9 rfl ?_
            refine r_callV_F [Value.int v5] cfX4_brightness (m_X4_brightness Z z6.2 v5) km_X2_118 ⟨rfl, rfl, (Nat.le_of_ble_eq_true rfl), (Nat.le_of_ble_eq_true rfl)⟩ rfl rfl 10 (qC_10 Z z6.2) rfl rfl (Nat.le_of_ble_eq_true rfl) dX2_filled_103 (fun v7 => ?_)
            refine r_fload dX2_filled_106 4 rfl ?_
            refine r_fsub dX2_filled_108 ?_
            refine r_letf (fun y8 => ?_)
            refine r_fstore (lv' := [(0, Value.ref (aC Z 1)), (1, Value.int x1), (2, Value.int x2), (3, Value.int x3), (4, Value.float x4), (5, Value.int x5), (6, Value.float x6), (7, Value.float x7), (8, Value.int x8), (9, Value.int v5), (10, Value.float y8)]) dX2_filled_109 (Nat.le_of_ble_eq_true rfl) [1, 2, 3, 4, 5, 6, 7, 8, 9, 10, 0] rfl ?_
            refine r_fload dX2_filled_111 10 rfl ?_
            refine r_fconst0 dX2_filled_113 ?_
            refine r_fcmpg dX2_filled_114 ?_
            refine r_if_ge (tgt := 124) dX2_filled_115 (by decide) (fun _ => ?_) (fun _ => ?_)
            · refine r_fload dX2_filled_124 10 rfl ?_
              refine r_lv [0, 1, 2, 3, 4, 5, 6, 7, 8, 9] rfl ?_
              exact wk_X2_filled_b126 Z z6.2 x1 x2 x3 x4 x5 x6 x7 x8 v5 y8 _ (ih)
            · refine r_fload dX2_filled_118 10 rfl ?_
              refine r_fneg dX2_filled_120 ?_
              refine r_goto (tgt := 126) dX2_filled_121 (by decide) ?_
              refine r_lv [0, 1, 2, 3, 4, 5, 6, 7, 8, 9] rfl ?_
              exact wk_X2_filled_b126 Z z6.2 x1 x2 x3 x4 x5 x6 x7 x8 v5 (FP.fneg y8) _ (ih)
          · refine r_goto (tgt := 175) dX2_filled_94 (by decide) ?_
            refine r_lv [0, 1, 2, 3, 4, 5, 6, 7, 8] rfl ?_
            exact wk_X2_filled_b175 Z z6.2 x1 x2 x3 x4 x5 x6 x7 x8 _ (ih)
def f_X2_filled (x1 : Int32) (x2 : Int32) (x3 : Int32) (w : Wd) : Option (Int32 × Wd) :=
  (f_X4_place x1 x2 x3 w).bind (fun v1 => (f_X4_brightness v1 w).bind (fun v2 => if inb (4 : Int32) 6 = true then (jlet (w.1 12 ((4 : Int32)).toNatClampNeg) (fun y3 => f_X2_filled_b39 x1 x2 x3 v2 y3 FUEL FP.fconst0 FP.fconst0 (0 : Int32) w)) else none))
set_option maxRecDepth 100000 in
set_option maxHeartbeats 4000000 in
theorem wk_X2_filled (Z : CSp) (w : Wd) (x1 : Int32) (x2 : Int32) (x3 : Int32)  : Wm (EC Z) MX2_filled oIw w 0 [(0, Value.ref (aC Z 1)), (1, Value.int x1), (2, Value.int x2), (3, Value.int x3)] [] (f_X2_filled x1 x2 x3 w) := by
  unfold f_X2_filled
  refine r_aload_n dX2_filled_0 0 rfl ?_
  refine r_get FX2 0 (Nat.le_of_ble_eq_true rfl) kf_X2_12 1 (qC_1 Z w) rfl dX2_filled_1 ?_
  refine r_aload_n dX2_filled_4 0 rfl ?_
  refine r_get FX2 0 (Nat.le_of_ble_eq_true rfl) kf_X2_12 1 (qC_1 Z w) rfl dX2_filled_5 ?_
  refine r_iload_n dX2_filled_8 1 rfl ?_
  refine r_iload_n dX2_filled_9 2 rfl ?_
  refine r_iload_n dX2_filled_10 3 rfl ?_
  refine r_callV_I [Value.int x1, Value.int x2, Value.int x3] cfX4_place (m_X4_place Z w x1 x2 x3) km_X2_115 ⟨rfl, rfl, (Nat.le_of_ble_eq_true rfl), (Nat.le_of_ble_eq_true rfl)⟩ rfl rfl 10 (qC_10 Z w) rfl rfl (Nat.le_of_ble_eq_true rfl) dX2_filled_11 (fun v1 => ?_)
  refine r_callV_F [Value.int v1] cfX4_brightness (m_X4_brightness Z w v1) km_X2_118 ⟨rfl, rfl, (Nat.le_of_ble_eq_true rfl), (Nat.le_of_ble_eq_true rfl)⟩ rfl rfl 10 (qC_10 Z w) rfl rfl (Nat.le_of_ble_eq_true rfl) dX2_filled_14 (fun v2 => ?_)
  refine r_fstore (lv' := [(0, Value.ref (aC Z 1)), (1, Value.int x1), (2, Value.int x2), (3, Value.int x3), (4, Value.float v2)]) dX2_filled_17 (Nat.le_of_ble_eq_true rfl) [1, 2, 3, 4, 0] rfl ?_
  refine r_aload_n dX2_filled_19 0 rfl ?_
  refine r_get FX2 0 (Nat.le_of_ble_eq_true rfl) kf_X2_12 1 (qC_1 Z w) rfl dX2_filled_20 ?_
  refine r_get FX4 3 (Nat.le_of_ble_eq_true rfl) kf_X2_51 10 (qC_10 Z w) rfl dX2_filled_23 ?_
  refine r_iconst (v := 4) dX2_filled_26 (by decide) ?_
  refine r_iald 12 (qC_12 Z w) rfl dX2_filled_27 ?_
  refine r_leti (fun y3 => ?_)
  refine r_istore (lv' := [(0, Value.ref (aC Z 1)), (1, Value.int x1), (2, Value.int x2), (3, Value.int x3), (4, Value.float v2), (5, Value.int y3)]) dX2_filled_28 (Nat.le_of_ble_eq_true rfl) [1, 2, 3, 4, 5, 0] rfl ?_
  refine r_fconst0 dX2_filled_30 ?_
  refine r_fstore (lv' := [(0, Value.ref (aC Z 1)), (1, Value.int x1), (2, Value.int x2), (3, Value.int x3), (4, Value.float v2), (5, Value.int y3), (6, Value.float FP.fconst0)]) dX2_filled_31 (Nat.le_of_ble_eq_true rfl) [1, 2, 3, 4, 5, 6, 0] rfl ?_
  refine r_fconst0 dX2_filled_33 ?_
  refine r_fstore (lv' := [(0, Value.ref (aC Z 1)), (1, Value.int x1), (2, Value.int x2), (3, Value.int x3), (4, Value.float v2), (5, Value.int y3), (6, Value.float FP.fconst0), (7, Value.float FP.fconst0)]) dX2_filled_34 (Nat.le_of_ble_eq_true rfl) [1, 2, 3, 4, 5, 6, 7, 0] rfl ?_
  refine r_iconst (v := 0) dX2_filled_36 (by decide) ?_
  refine r_istore (lv' := [(0, Value.ref (aC Z 1)), (1, Value.int x1), (2, Value.int x2), (3, Value.int x3), (4, Value.float v2), (5, Value.int y3), (6, Value.float FP.fconst0), (7, Value.float FP.fconst0), (8, Value.int (0 : Int32))]) dX2_filled_37 (Nat.le_of_ble_eq_true rfl) [1, 2, 3, 4, 5, 6, 7, 8, 0] rfl ?_
  exact wk_X2_filled_b39 Z x1 x2 x3 v2 y3 FUEL FP.fconst0 FP.fconst0 (0 : Int32) w
theorem m_X2_filled (Z : CSp) (w : Wd) (x1 : Int32) (x2 : Int32) (x3 : Int32) : MetM (EC Z) yX2_filled cX2_filled 12 (some .int) { frames := 5, cells := 0, slots := 0, locals := 121 } oIw [Value.ref (aC Z 1), Value.int x1, Value.int x2, Value.int x3] w (f_X2_filled x1 x2 x3 w) := MetM_of (plainFor_of_name (by decide)) (Nat.le_of_ble_eq_true rfl) (wk_X2_filled Z w x1 x2 x3)
abbrev MX2_forget : Mt := (cX2_forget, RX2, 1, none, { frames := 1, cells := 0, slots := 0, locals := 23 })
def f_X2_forget (w : Wd) : Option (Wd) :=
  (f_J7_fill_53178_2 (-1 : Int32) w).bind (fun w1 => some w1)
set_option maxRecDepth 100000 in
set_option maxHeartbeats 4000000 in
theorem wk_X2_forget (Z : CSp) (w : Wd)   : Wm (EC Z) MX2_forget oVw w 0 [(0, Value.ref (aC Z 1))] [] (f_X2_forget w) := by
  unfold f_X2_forget
  refine r_aload_n dX2_forget_0 0 rfl ?_
  refine r_get FX2 1 (Nat.le_of_ble_eq_true rfl) kf_X2_18 1 (qC_1 Z w) rfl dX2_forget_1 ?_
  refine r_iconst (v := -1) dX2_forget_4 (by decide) ?_
  refine r_callS_Vw [Value.ref (aC Z 2), Value.int (-1 : Int32)] cfJ7_fill_53178 (m_J7_fill_53178_2 Z w (-1 : Int32)) km_X2_31 ⟨rfl, rfl, (Nat.le_of_ble_eq_true rfl), (Nat.le_of_ble_eq_true rfl)⟩ rfl rfl (Nat.le_of_ble_eq_true rfl) dX2_forget_5 (fun w1 => ?_)
  exact r_vret rfl dX2_forget_8
theorem m_X2_forget (Z : CSp) (w : Wd)  : MetM (EC Z) yX2_forget cX2_forget 1 none { frames := 1, cells := 0, slots := 0, locals := 23 } oVw [Value.ref (aC Z 1)] w (f_X2_forget w) := MetM_of (plainFor_of_name (by decide)) (Nat.le_of_ble_eq_true rfl) (wk_X2_forget Z w )
abbrev MX2_meanBits : Mt := (cX2_meanBits, RX2, 7, some .long, { frames := 6, cells := 0, slots := 0, locals := 142 })
def f_X2_meanBits_b97 (s0 : Int64) (w : Wd) : Option (Int64 × Wd) :=
  some (s0, w)
set_option maxRecDepth 100000 in
set_option maxHeartbeats 4000000 in
theorem wk_X2_meanBits_b97 (Z : CSp) (w : Wd) (s0 : Int64)  : Wm (EC Z) MX2_meanBits oLw w 97 [] [Value.long s0] (f_X2_meanBits_b97 s0 w) := by
  unfold f_X2_meanBits_b97
  exact r_lretw rfl dX2_meanBits_97
def f_X2_meanBits_b69 (x1 : Int32) (x2 : Int32) (x3 : Int32) (x4 : Int32) (x5 : Int32) (k22 : Int32 → Int32 → Int32 → Wd → Option (Int64 × Wd)) (w : Wd) : Option (Int64 × Wd) :=
  k22 x2 x3 (x5 + 1) w
set_option maxRecDepth 100000 in
set_option maxHeartbeats 4000000 in
theorem wk_X2_meanBits_b69 (Z : CSp) (w : Wd) (x1 : Int32) (x2 : Int32) (x3 : Int32) (x4 : Int32) (x5 : Int32) (k22 : Int32 → Int32 → Int32 → Wd → Option (Int64 × Wd)) (hk22 : ∀ (x2 : Int32) (x3 : Int32) (x5 : Int32) (w : Wd), Wm (EC Z) MX2_meanBits oLw w 22 [(0, Value.ref (aC Z 1)), (1, Value.int x1), (2, Value.int x2), (3, Value.int x3), (4, Value.int x4), (5, Value.int x5)] [] (k22 x2 x3 x5 w)) : Wm (EC Z) MX2_meanBits oLw w 69 [(0, Value.ref (aC Z 1)), (1, Value.int x1), (2, Value.int x2), (3, Value.int x3), (4, Value.int x4), (5, Value.int x5)] [] (f_X2_meanBits_b69 x1 x2 x3 x4 x5 k22 w) := by
  unfold f_X2_meanBits_b69
  refine r_iinc (lv' := [(0, Value.ref (aC Z 1)), (1, Value.int x1), (2, Value.int x2), (3, Value.int x3), (4, Value.int x4), (5, Value.int (x5 + 1))]) dX2_meanBits_69 5 rfl (by rfl) (Nat.le_of_ble_eq_true rfl) [1, 2, 3, 4, 5, 0] rfl ?_
  refine r_goto (tgt := 22) dX2_meanBits_72 (by decide) ?_
  exact hk22 x2 x3 (x5 + 1) w
def f_X2_meanBits_b22 (x1 : Int32) (x4 : Int32) (k7 : Int32 → Int32 → Int32 → Wd → Option (Int64 × Wd)) : Nat → Int32 → Int32 → Int32 → Wd → Option (Int64 × Wd)
  | 0, _, _, _, _ => none
  | n + 1, x2, x3, x5, w =>
  if (w.1 10 0) ≤ x5 then (k7 x2 x3 (x4 + 1) w) else ((f_X4_place x1 x5 x4 w).bind (fun v5 => (f_X2_markOf v5 w).bind (fun z6 => if z6.1 = 0 then ((f_X2_distanceOf v5 z6.2).bind (fun z7 => jlet (x2 + z7.1) (fun y8 => f_X2_meanBits_b69 x1 y8 (x3 + 1) x4 x5 (f_X2_meanBits_b22 x1 x4 k7 n) z7.2))) else (f_X2_meanBits_b69 x1 x2 x3 x4 x5 (f_X2_meanBits_b22 x1 x4 k7 n) z6.2))))
set_option maxRecDepth 100000 in
set_option maxHeartbeats 4000000 in
theorem wk_X2_meanBits_b22 (Z : CSp) (x1 : Int32) (x4 : Int32) (k7 : Int32 → Int32 → Int32 → Wd → Option (Int64 × Wd)) (hk7 : ∀ (x2 : Int32) (x3 : Int32) (x4 : Int32) (w : Wd), Wm (EC Z) MX2_meanBits oLw w 7 [(0, Value.ref (aC Z 1)), (1, Value.int x1), (2, Value.int x2), (3, Value.int x3), (4, Value.int x4)] [] (k7 x2 x3 x4 w)) : ∀ (n : Nat) (x2 : Int32) (x3 : Int32) (x5 : Int32) (w : Wd), Wm (EC Z) MX2_meanBits oLw w 22 [(0, Value.ref (aC Z 1)), (1, Value.int x1), (2, Value.int x2), (3, Value.int x3), (4, Value.int x4), (5, Value.int x5)] [] (f_X2_meanBits_b22 x1 x4 k7 n x2 x3 x5 w) := by
  intro n
  induction n with
  | zero =>
    intro x2 x3 x5 w
    exact r_none
  | succ n ih =>
    intro x2 x3 x5 w
    rw [f_X2_meanBits_b22]
    refine r_iload dX2_meanBits_22 5 rfl ?_
    refine r_aload_n dX2_meanBits_24 0 rfl ?_
    refine r_get FX2 0 (Nat.le_of_ble_eq_true rfl) kf_X2_12 1 (qC_1 Z w) rfl dX2_meanBits_25 ?_
    refine r_get FX4 0 (Nat.le_of_ble_eq_true rfl) kf_X2_135 10 (qC_10 Z w) rfl dX2_meanBits_28 ?_
    refine r_icmp_ge (tgt := 75) dX2_meanBits_31 (by decide) (fun _ => ?_) (fun _ => ?_)
    · refine r_iinc (lv' := [(0, Value.ref (aC Z 1)), (1, Value.int x1), (2, Value.int x2), (3, Value.int x3), (4, Value.int (x4 + 1)), (5, Value.int x5)]) dX2_meanBits_75 4 rfl (by rfl) (Nat.le_of_ble_eq_true rfl) [1, 2, 3, 4, 0, 5] rfl ?_
      refine r_goto (tgt := 7) dX2_meanBits_78 (by decide) ?_
      refine r_lv [0, 1, 2, 3, 4] rfl ?_
      exact hk7 x2 x3 (x4 + 1) w
    · refine r_aload_n dX2_meanBits_34 0 rfl ?_
      refine r_get FX2 0 (Nat.le_of_ble_eq_true rfl) kf_X2_12 1 (qC_1 Z w) rfl dX2_meanBits_35 ?_
      refine r_iload_n dX2_meanBits_38 1 rfl ?_
      refine r_iload dX2_meanBits_39 5 rfl ?_
      refine r_iload dX2_meanBits_41 4 rfl ?_
      refine r_callV_I [Value.int x1, Value.int x5, Value.int x4] cfX4_place (m_X4_place Z w x1 x5 x4) km_X2_115 ⟨rfl, rfl, (Nat.le_of_ble_eq_true rfl), (Nat.le_of_ble_eq_true rfl)⟩ rfl rfl 10 (qC_10 Z w) rfl rfl (Nat.le_of_ble_eq_true rfl) dX2_meanBits_43 (fun v5 => ?_)
      refine r_istore (lv' := [(0, Value.ref (aC Z 1)), (1, Value.int x1), (2, Value.int x2), (3, Value.int x3), (4, Value.int x4), (5, Value.int x5), (6, Value.int v5)]) dX2_meanBits_46 (Nat.le_of_ble_eq_true rfl) [1, 2, 3, 4, 5, 6, 0] rfl ?_
      refine r_aload_n dX2_meanBits_48 0 rfl ?_
      refine r_iload dX2_meanBits_49 6 rfl ?_
      refine r_callV_Iw [Value.int v5] cfX2_markOf (m_X2_markOf Z w v5) km_X2_48 ⟨rfl, rfl, (Nat.le_of_ble_eq_true rfl), (Nat.le_of_ble_eq_true rfl)⟩ rfl rfl 1 (qC_1 Z w) rfl rfl (Nat.le_of_ble_eq_true rfl) dX2_meanBits_51 (fun z6 => ?_)
      refine r_if_ne (tgt := 69) dX2_meanBits_54 (by decide) (fun _ => ?_) (fun _ => ?_)
      · refine r_lv [0, 1, 2, 3, 4, 5] rfl ?_
        exact wk_X2_meanBits_b69 Z z6.2 x1 x2 x3 x4 x5 _ (ih)
      · refine r_iload_n dX2_meanBits_57 2 rfl ?_
        refine r_aload_n dX2_meanBits_58 0 rfl ?_
        refine r_iload dX2_meanBits_59 6 rfl ?_
        refine r_callV_Iw [Value.int v5] cfX2_distanceOf (m_X2_distanceOf Z z6.2 v5) km_X2_129 ⟨rfl, rfl, (Nat.le_of_ble_eq_true rfl), (Nat.le_of_ble_eq_true rfl)⟩ rfl rfl 1 (qC_1 Z z6.2) rfl rfl (Nat.le_of_ble_eq_true rfl) dX2_meanBits_61 (fun z7 => ?_)
        refine r_iadd dX2_meanBits_64 ?_
        refine r_leti (fun y8 => ?_)
        refine r_istore_n (lv' := [(0, Value.ref (aC Z 1)), (1, Value.int x1), (2, Value.int y8), (3, Value.int x3), (4, Value.int x4), (5, Value.int x5), (6, Value.int v5)]) dX2_meanBits_65 (Nat.le_of_ble_eq_true rfl) [1, 2, 0, 3, 4, 5, 6] rfl ?_
        refine r_iinc (lv' := [(0, Value.ref (aC Z 1)), (1, Value.int x1), (2, Value.int y8), (3, Value.int (x3 + 1)), (4, Value.int x4), (5, Value.int x5), (6, Value.int v5)]) dX2_meanBits_66 3 rfl (by rfl) (Nat.le_of_ble_eq_true rfl) [1, 2, 3, 0, 4, 5, 6] rfl ?_
        refine r_lv [0, 1, 2, 3, 4, 5] rfl ?_
        exact wk_X2_meanBits_b69 Z z7.2 x1 y8 (x3 + 1) x4 x5 _ (ih)
def f_X2_meanBits_b7 (x1 : Int32) : Nat → Int32 → Int32 → Int32 → Wd → Option (Int64 × Wd)
  | 0, _, _, _, _ => none
  | n + 1, x2, x3, x4, w =>
  if (w.1 10 1) ≤ x4 then (if x3 ≤ 0 then (f_X2_meanBits_b97 (0 : Int64) w) else (if nn64 (FP.ddiv (FP.i2d x2) (FP.i2d x3)) = true then ((f_X0_ofDouble (FP.ddiv (FP.i2d x2) (FP.i2d x3))).bind (fun v2 => f_X2_meanBits_b97 v2 w)) else none)) else (f_X2_meanBits_b22 x1 x4 (f_X2_meanBits_b7 x1 n) FUEL x2 x3 (0 : Int32) w)
set_option maxRecDepth 100000 in
set_option maxHeartbeats 4000000 in
theorem wk_X2_meanBits_b7 (Z : CSp) (x1 : Int32)  : ∀ (n : Nat) (x2 : Int32) (x3 : Int32) (x4 : Int32) (w : Wd), Wm (EC Z) MX2_meanBits oLw w 7 [(0, Value.ref (aC Z 1)), (1, Value.int x1), (2, Value.int x2), (3, Value.int x3), (4, Value.int x4)] [] (f_X2_meanBits_b7 x1 n x2 x3 x4 w) := by
  intro n
  induction n with
  | zero =>
    intro x2 x3 x4 w
    exact r_none
  | succ n ih =>
    intro x2 x3 x4 w
    rw [f_X2_meanBits_b7]
    refine r_iload dX2_meanBits_7 4 rfl ?_
    refine r_aload_n dX2_meanBits_9 0 rfl ?_
    refine r_get FX2 0 (Nat.le_of_ble_eq_true rfl) kf_X2_12 1 (qC_1 Z w) rfl dX2_meanBits_10 ?_
    refine r_get FX4 1 (Nat.le_of_ble_eq_true rfl) kf_X2_132 10 (qC_10 Z w) rfl dX2_meanBits_13 ?_
    refine r_icmp_ge (tgt := 81) dX2_meanBits_16 (by decide) (fun _ => ?_) (fun _ => ?_)
    · refine r_iload_n dX2_meanBits_81 3 rfl ?_
      refine r_if_le (tgt := 96) dX2_meanBits_82 (by decide) (fun _ => ?_) (fun _ => ?_)
      · refine r_lconst (v := 0) dX2_meanBits_96 (by decide) ?_
        refine r_lv [] rfl ?_
        exact wk_X2_meanBits_b97 Z w (0 : Int64)
      · refine r_iload_n dX2_meanBits_85 2 rfl ?_
        refine r_i2d dX2_meanBits_86 ?_
        refine r_iload_n dX2_meanBits_87 3 rfl ?_
        refine r_i2d dX2_meanBits_88 ?_
        refine r_ddiv dX2_meanBits_89 ?_
        refine r_callS_L [Value.double (FP.ddiv (FP.i2d x2) (FP.i2d x3))] cfX0_ofDouble (m_X0_ofDouble Z w (FP.ddiv (FP.i2d x2) (FP.i2d x3))) km_X2_138 ⟨rfl, rfl, (Nat.le_of_ble_eq_true rfl), (Nat.le_of_ble_eq_true rfl)⟩ rfl rfl (Nat.le_of_ble_eq_true rfl) dX2_meanBits_90 (fun v2 => ?_)
        refine r_goto (tgt := 97) dX2_meanBits_93 (by decide) ?_
        refine r_lv [] rfl ?_
        exact wk_X2_meanBits_b97 Z w v2
    · refine r_iconst (v := 0) dX2_meanBits_19 (by decide) ?_
      refine r_istore (lv' := [(0, Value.ref (aC Z 1)), (1, Value.int x1), (2, Value.int x2), (3, Value.int x3), (4, Value.int x4), (5, Value.int (0 : Int32))]) dX2_meanBits_20 (Nat.le_of_ble_eq_true rfl) [1, 2, 3, 4, 5, 0] rfl ?_
      exact wk_X2_meanBits_b22 Z x1 x4 _ (ih) FUEL x2 x3 (0 : Int32) w
def f_X2_meanBits (x1 : Int32) (w : Wd) : Option (Int64 × Wd) :=
  f_X2_meanBits_b7 x1 FUEL (0 : Int32) (0 : Int32) (0 : Int32) w
set_option maxRecDepth 100000 in
set_option maxHeartbeats 4000000 in
theorem wk_X2_meanBits (Z : CSp) (w : Wd) (x1 : Int32)  : Wm (EC Z) MX2_meanBits oLw w 0 [(0, Value.ref (aC Z 1)), (1, Value.int x1)] [] (f_X2_meanBits x1 w) := by
  unfold f_X2_meanBits
  refine r_iconst (v := 0) dX2_meanBits_0 (by decide) ?_
  refine r_istore_n (lv' := [(0, Value.ref (aC Z 1)), (1, Value.int x1), (2, Value.int (0 : Int32))]) dX2_meanBits_1 (Nat.le_of_ble_eq_true rfl) [1, 2, 0] rfl ?_
  refine r_iconst (v := 0) dX2_meanBits_2 (by decide) ?_
  refine r_istore_n (lv' := [(0, Value.ref (aC Z 1)), (1, Value.int x1), (2, Value.int (0 : Int32)), (3, Value.int (0 : Int32))]) dX2_meanBits_3 (Nat.le_of_ble_eq_true rfl) [1, 2, 3, 0] rfl ?_
  refine r_iconst (v := 0) dX2_meanBits_4 (by decide) ?_
  refine r_istore (lv' := [(0, Value.ref (aC Z 1)), (1, Value.int x1), (2, Value.int (0 : Int32)), (3, Value.int (0 : Int32)), (4, Value.int (0 : Int32))]) dX2_meanBits_5 (Nat.le_of_ble_eq_true rfl) [1, 2, 3, 4, 0] rfl ?_
  exact wk_X2_meanBits_b7 Z x1 FUEL (0 : Int32) (0 : Int32) (0 : Int32) w
theorem m_X2_meanBits (Z : CSp) (w : Wd) (x1 : Int32) : MetM (EC Z) yX2_meanBits cX2_meanBits 7 (some .long) { frames := 6, cells := 0, slots := 0, locals := 142 } oLw [Value.ref (aC Z 1), Value.int x1] w (f_X2_meanBits x1 w) := MetM_of (plainFor_of_name (by decide)) (Nat.le_of_ble_eq_true rfl) (wk_X2_meanBits Z w x1)
abbrev MX2_nearOf : Mt := (cX2_nearOf, RX2, 2, some .int, { frames := 5, cells := 0, slots := 0, locals := 121 })
def f_X2_nearOf_b21 (s0 : Int32) (w : Wd) : Option (Int32 × Wd) :=
  some (s0, w)
set_option maxRecDepth 100000 in
set_option maxHeartbeats 4000000 in
theorem wk_X2_nearOf_b21 (Z : CSp) (w : Wd) (s0 : Int32)  : Wm (EC Z) MX2_nearOf oIw w 21 [] [Value.int s0] (f_X2_nearOf_b21 s0 w) := by
  unfold f_X2_nearOf_b21
  exact r_iretw rfl dX2_nearOf_21
def f_X2_nearOf (x1 : Int32) (w : Wd) : Option (Int32 × Wd) :=
  (f_X2_markOf x1 w).bind (fun z1 => if z1.1 = (4 : Int32) then (if inb x1 32 = true then (f_X2_nearOf_b21 (z1.2.1 3 (x1).toNatClampNeg) z1.2) else none) else (f_X2_nearOf_b21 (-10001 : Int32) z1.2))
set_option maxRecDepth 100000 in
set_option maxHeartbeats 4000000 in
theorem wk_X2_nearOf (Z : CSp) (w : Wd) (x1 : Int32)  : Wm (EC Z) MX2_nearOf oIw w 0 [(0, Value.ref (aC Z 1)), (1, Value.int x1)] [] (f_X2_nearOf x1 w) := by
  unfold f_X2_nearOf
  refine r_aload_n dX2_nearOf_0 0 rfl ?_
  refine r_iload_n dX2_nearOf_1 1 rfl ?_
  refine r_callV_Iw [Value.int x1] cfX2_markOf (m_X2_markOf Z w x1) km_X2_48 ⟨rfl, rfl, (Nat.le_of_ble_eq_true rfl), (Nat.le_of_ble_eq_true rfl)⟩ rfl rfl 1 (qC_1 Z w) rfl rfl (Nat.le_of_ble_eq_true rfl) dX2_nearOf_2 (fun z1 => ?_)
  refine r_iconst (v := 4) dX2_nearOf_5 (by decide) ?_
  refine r_icmp_ne (tgt := 18) dX2_nearOf_6 (by decide) (fun _ => ?_) (fun _ => ?_)
  · refine r_sipush (v := -10001) dX2_nearOf_18 (by decide) ?_
    refine r_lv [] rfl ?_
    exact wk_X2_nearOf_b21 Z z1.2 (-10001 : Int32)
  · refine r_aload_n dX2_nearOf_9 0 rfl ?_
    refine r_get FX2 2 (Nat.le_of_ble_eq_true rfl) kf_X2_22 1 (qC_1 Z z1.2) rfl dX2_nearOf_10 ?_
    refine r_iload_n dX2_nearOf_13 1 rfl ?_
    refine r_iald 3 (qC_3 Z z1.2) rfl dX2_nearOf_14 ?_
    refine r_goto (tgt := 21) dX2_nearOf_15 (by decide) ?_
    refine r_lv [] rfl ?_
    exact wk_X2_nearOf_b21 Z z1.2 (z1.2.1 3 (x1).toNatClampNeg)
theorem m_X2_nearOf (Z : CSp) (w : Wd) (x1 : Int32) : MetM (EC Z) yX2_nearOf cX2_nearOf 2 (some .int) { frames := 5, cells := 0, slots := 0, locals := 121 } oIw [Value.ref (aC Z 1), Value.int x1] w (f_X2_nearOf x1 w) := MetM_of (plainFor_of_name (by decide)) (Nat.le_of_ble_eq_true rfl) (wk_X2_nearOf Z w x1)
abbrev MX2_shift : Mt := (cX2_shift, RX2, 3, some .int, { frames := 6, cells := 0, slots := 0, locals := 142 })
def f_X2_shift_b16 (w : Wd) : Option (Int32 × Wd) :=
  some ((-10001 : Int32), w)
set_option maxRecDepth 100000 in
set_option maxHeartbeats 4000000 in
theorem wk_X2_shift_b16 (Z : CSp) (w : Wd)   : Wm (EC Z) MX2_shift oIw w 16 [] [] (f_X2_shift_b16 w) := by
  unfold f_X2_shift_b16
  refine r_sipush (v := -10001) dX2_shift_16 (by decide) ?_
  exact r_iretw rfl dX2_shift_19
def f_X2_shift (x1 : Int32) (x2 : Int32) (w : Wd) : Option (Int32 × Wd) :=
  (f_X2_markOf x1 w).bind (fun z1 => if z1.1 = 0 then ((f_X2_markOf x2 z1.2).bind (fun z2 => if z2.1 = 0 then ((f_X2_distanceOf x2 z2.2).bind (fun z3 => (f_X2_distanceOf x1 z3.2).bind (fun z4 => some ((z3.1 - z4.1), z4.2)))) else (f_X2_shift_b16 z2.2))) else (f_X2_shift_b16 z1.2))
set_option maxRecDepth 100000 in
set_option maxHeartbeats 4000000 in
theorem wk_X2_shift (Z : CSp) (w : Wd) (x1 : Int32) (x2 : Int32)  : Wm (EC Z) MX2_shift oIw w 0 [(0, Value.ref (aC Z 1)), (1, Value.int x1), (2, Value.int x2)] [] (f_X2_shift x1 x2 w) := by
  unfold f_X2_shift
  refine r_aload_n dX2_shift_0 0 rfl ?_
  refine r_iload_n dX2_shift_1 1 rfl ?_
  refine r_callV_Iw [Value.int x1] cfX2_markOf (m_X2_markOf Z w x1) km_X2_48 ⟨rfl, rfl, (Nat.le_of_ble_eq_true rfl), (Nat.le_of_ble_eq_true rfl)⟩ rfl rfl 1 (qC_1 Z w) rfl rfl (Nat.le_of_ble_eq_true rfl) dX2_shift_2 (fun z1 => ?_)
  refine r_if_ne (tgt := 16) dX2_shift_5 (by decide) (fun _ => ?_) (fun _ => ?_)
  · refine r_lv [] rfl ?_
    exact wk_X2_shift_b16 Z z1.2
  · refine r_aload_n dX2_shift_8 0 rfl ?_
    refine r_iload_n dX2_shift_9 2 rfl ?_
    refine r_callV_Iw [Value.int x2] cfX2_markOf (m_X2_markOf Z z1.2 x2) km_X2_48 ⟨rfl, rfl, (Nat.le_of_ble_eq_true rfl), (Nat.le_of_ble_eq_true rfl)⟩ rfl rfl 1 (qC_1 Z z1.2) rfl rfl (Nat.le_of_ble_eq_true rfl) dX2_shift_10 (fun z2 => ?_)
    refine r_if_eq (tgt := 20) dX2_shift_13 (by decide) (fun _ => ?_) (fun _ => ?_)
    · refine r_aload_n dX2_shift_20 0 rfl ?_
      refine r_iload_n dX2_shift_21 2 rfl ?_
      refine r_callV_Iw [Value.int x2] cfX2_distanceOf (m_X2_distanceOf Z z2.2 x2) km_X2_129 ⟨rfl, rfl, (Nat.le_of_ble_eq_true rfl), (Nat.le_of_ble_eq_true rfl)⟩ rfl rfl 1 (qC_1 Z z2.2) rfl rfl (Nat.le_of_ble_eq_true rfl) dX2_shift_22 (fun z3 => ?_)
      refine r_aload_n dX2_shift_25 0 rfl ?_
      refine r_iload_n dX2_shift_26 1 rfl ?_
      refine r_callV_Iw [Value.int x1] cfX2_distanceOf (m_X2_distanceOf Z z3.2 x1) km_X2_129 ⟨rfl, rfl, (Nat.le_of_ble_eq_true rfl), (Nat.le_of_ble_eq_true rfl)⟩ rfl rfl 1 (qC_1 Z z3.2) rfl rfl (Nat.le_of_ble_eq_true rfl) dX2_shift_27 (fun z4 => ?_)
      refine r_isub dX2_shift_30 ?_
      exact r_iretw rfl dX2_shift_31
    · refine r_lv [] rfl ?_
      exact wk_X2_shift_b16 Z z2.2
theorem m_X2_shift (Z : CSp) (w : Wd) (x1 : Int32) (x2 : Int32) : MetM (EC Z) yX2_shift cX2_shift 3 (some .int) { frames := 6, cells := 0, slots := 0, locals := 142 } oIw [Value.ref (aC Z 1), Value.int x1, Value.int x2] w (f_X2_shift x1 x2 w) := MetM_of (plainFor_of_name (by decide)) (Nat.le_of_ble_eq_true rfl) (wk_X2_shift Z w x1 x2)
