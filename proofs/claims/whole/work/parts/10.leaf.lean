abbrev MX0_ofDouble : Mt := (cX0_ofDouble, RX0, 7, some .long, { frames := 0, cells := 0, slots := 0, locals := 0 })
def f_X0_ofDouble_b87 (x2 : UInt64) (x4 : Int64) : Option (Int64) :=
  if nn64 (FP.dsub x2 FP.dconst1) = true then (if nn64 (FP.dmul (FP.dsub x2 FP.dconst1) (4841369599423283200 : UInt64)) = true then (some ((x4 <<< (((52 : Int32)).toInt64 &&& 63)) ||| (FP.d2l (FP.dmul (FP.dsub x2 FP.dconst1) (4841369599423283200 : UInt64))))) else none) else none
set_option maxRecDepth 100000 in
set_option maxHeartbeats 4000000 in
theorem wk_X0_ofDouble_b87 (Z : CSp) (w : Wd) (x2 : UInt64) (x4 : Int64)  : Wm (EC Z) MX0_ofDouble (oL w) w 87 [(2, Value.double x2), (4, Value.long x4)] [] (f_X0_ofDouble_b87 x2 x4) := by
  unfold f_X0_ofDouble_b87
  refine r_lload dX0_ofDouble_87 1 rfl ?_
  refine r_bipush (v := 52) dX0_ofDouble_89 (by decide) ?_
  refine r_lshl dX0_ofDouble_91 ?_
  refine r_dload_n dX0_ofDouble_92 0 rfl ?_
  refine r_dconst1 dX0_ofDouble_93 ?_
  refine r_dsub dX0_ofDouble_94 ?_
  refine r_ldc2d dX0_ofDouble_95 kk_X0_17 ?_
  refine r_dmul dX0_ofDouble_98 ?_
  refine r_d2l dX0_ofDouble_99 ?_
  refine r_lor dX0_ofDouble_100 ?_
  exact r_lret rfl dX0_ofDouble_101
def f_X0_ofDouble_b55  : Nat → UInt64 → Int64 → Int32 → Option (Int64)
  | 0, _, _, _ => none
  | n + 1, x2, x4, x6 =>
  if (1100 : Int32) ≤ x6 then (f_X0_ofDouble_b87 x2 x4) else (if 0 ≤ (dcg x2 FP.dconst1) then (f_X0_ofDouble_b87 x2 x4) else (if nn64 (FP.dmul x2 (4611686018427387904 : UInt64)) = true then (jlet (FP.dmul x2 (4611686018427387904 : UInt64)) (fun y3 => jlet (x4 - (1 : Int64)) (fun y4 => f_X0_ofDouble_b55 n y3 y4 (x6 + 1)))) else none))
set_option maxRecDepth 100000 in
set_option maxHeartbeats 4000000 in
theorem wk_X0_ofDouble_b55 (Z : CSp) (w : Wd)   : ∀ (n : Nat) (x2 : UInt64) (x4 : Int64) (x6 : Int32), Wm (EC Z) MX0_ofDouble (oL w) w 55 [(2, Value.double x2), (4, Value.long x4), (6, Value.int x6)] [] (f_X0_ofDouble_b55  n x2 x4 x6) := by
  intro n
  induction n with
  | zero =>
    intro x2 x4 x6
    exact r_none
  | succ n ih =>
    intro x2 x4 x6
    rw [f_X0_ofDouble_b55]
    refine r_iload dX0_ofDouble_55 2 rfl ?_
    refine r_sipush (v := 1100) dX0_ofDouble_57 (by decide) ?_
    refine r_icmp_ge (tgt := 87) dX0_ofDouble_60 (by decide) (fun _ => ?_) (fun _ => ?_)
    · refine r_lv [0, 1] rfl ?_
      exact wk_X0_ofDouble_b87 Z w x2 x4
    · refine r_dload_n dX0_ofDouble_63 0 rfl ?_
      refine r_dconst1 dX0_ofDouble_64 ?_
      refine r_dcmpg dX0_ofDouble_65 ?_
      refine r_if_ge (tgt := 87) dX0_ofDouble_66 (by decide) (fun _ => ?_) (fun _ => ?_)
      · refine r_lv [0, 1] rfl ?_
        exact wk_X0_ofDouble_b87 Z w x2 x4
      · refine r_dload_n dX0_ofDouble_69 0 rfl ?_
        refine r_ldc2d dX0_ofDouble_70 kk_X0_15 ?_
        refine r_dmul dX0_ofDouble_73 ?_
        refine r_letd (fun y3 => ?_)
        refine r_dstore_n (lv' := [(2, Value.double y3), (4, Value.long x4), (6, Value.int x6)]) dX0_ofDouble_74 (Nat.le_of_ble_eq_true rfl) [0, 1, 2] rfl ?_
        refine r_lload dX0_ofDouble_75 1 rfl ?_
        refine r_lconst (v := 1) dX0_ofDouble_77 (by decide) ?_
        refine r_lsub dX0_ofDouble_78 ?_
        refine r_letl (fun y4 => ?_)
        refine r_lstore (lv' := [(2, Value.double y3), (4, Value.long y4), (6, Value.int x6)]) dX0_ofDouble_79 (Nat.le_of_ble_eq_true rfl) [1, 0, 2] rfl ?_
        refine r_iinc (lv' := [(2, Value.double y3), (4, Value.long y4), (6, Value.int (x6 + 1))]) dX0_ofDouble_81 2 rfl (by rfl) (Nat.le_of_ble_eq_true rfl) [1, 2, 0] rfl ?_
        refine r_goto (tgt := 55) dX0_ofDouble_84 (by decide) ?_
        exact ih y3 y4 (x6 + 1)
def f_X0_ofDouble_b52 (x2 : UInt64) (x4 : Int64) : Option (Int64) :=
  f_X0_ofDouble_b55 FUEL x2 x4 (0 : Int32)
set_option maxRecDepth 100000 in
set_option maxHeartbeats 4000000 in
theorem wk_X0_ofDouble_b52 (Z : CSp) (w : Wd) (x2 : UInt64) (x4 : Int64)  : Wm (EC Z) MX0_ofDouble (oL w) w 52 [(2, Value.double x2), (4, Value.long x4)] [] (f_X0_ofDouble_b52 x2 x4) := by
  unfold f_X0_ofDouble_b52
  refine r_iconst (v := 0) dX0_ofDouble_52 (by decide) ?_
  refine r_istore (lv' := [(2, Value.double x2), (4, Value.long x4), (6, Value.int (0 : Int32))]) dX0_ofDouble_53 (Nat.le_of_ble_eq_true rfl) [1, 2, 0] rfl ?_
  exact wk_X0_ofDouble_b55 Z w FUEL x2 x4 (0 : Int32)
def f_X0_ofDouble_b18  : Nat → UInt64 → Int64 → Int32 → Option (Int64)
  | 0, _, _, _ => none
  | n + 1, x2, x4, x6 =>
  if (1100 : Int32) ≤ x6 then (f_X0_ofDouble_b52 x2 x4) else (if (dcl x2 (4611686018427387904 : UInt64)) < 0 then (f_X0_ofDouble_b52 x2 x4) else (if nn64 (FP.ddiv x2 (4611686018427387904 : UInt64)) = true then (jlet (FP.ddiv x2 (4611686018427387904 : UInt64)) (fun y3 => jlet (x4 + (1 : Int64)) (fun y4 => f_X0_ofDouble_b18 n y3 y4 (x6 + 1)))) else none))
set_option maxRecDepth 100000 in
set_option maxHeartbeats 4000000 in
theorem wk_X0_ofDouble_b18 (Z : CSp) (w : Wd)   : ∀ (n : Nat) (x2 : UInt64) (x4 : Int64) (x6 : Int32), Wm (EC Z) MX0_ofDouble (oL w) w 18 [(2, Value.double x2), (4, Value.long x4), (6, Value.int x6)] [] (f_X0_ofDouble_b18  n x2 x4 x6) := by
  intro n
  induction n with
  | zero =>
    intro x2 x4 x6
    exact r_none
  | succ n ih =>
    intro x2 x4 x6
    rw [f_X0_ofDouble_b18]
    refine r_iload dX0_ofDouble_18 2 rfl ?_
    refine r_sipush (v := 1100) dX0_ofDouble_20 (by decide) ?_
    refine r_icmp_ge (tgt := 52) dX0_ofDouble_23 (by decide) (fun _ => ?_) (fun _ => ?_)
    · refine r_lv [0, 1] rfl ?_
      exact wk_X0_ofDouble_b52 Z w x2 x4
    · refine r_dload_n dX0_ofDouble_26 0 rfl ?_
      refine r_ldc2d dX0_ofDouble_27 kk_X0_15 ?_
      refine r_dcmpl dX0_ofDouble_30 ?_
      refine r_if_lt (tgt := 52) dX0_ofDouble_31 (by decide) (fun _ => ?_) (fun _ => ?_)
      · refine r_lv [0, 1] rfl ?_
        exact wk_X0_ofDouble_b52 Z w x2 x4
      · refine r_dload_n dX0_ofDouble_34 0 rfl ?_
        refine r_ldc2d dX0_ofDouble_35 kk_X0_15 ?_
        refine r_ddiv dX0_ofDouble_38 ?_
        refine r_letd (fun y3 => ?_)
        refine r_dstore_n (lv' := [(2, Value.double y3), (4, Value.long x4), (6, Value.int x6)]) dX0_ofDouble_39 (Nat.le_of_ble_eq_true rfl) [0, 1, 2] rfl ?_
        refine r_lload dX0_ofDouble_40 1 rfl ?_
        refine r_lconst (v := 1) dX0_ofDouble_42 (by decide) ?_
        refine r_ladd dX0_ofDouble_43 ?_
        refine r_letl (fun y4 => ?_)
        refine r_lstore (lv' := [(2, Value.double y3), (4, Value.long y4), (6, Value.int x6)]) dX0_ofDouble_44 (Nat.le_of_ble_eq_true rfl) [1, 0, 2] rfl ?_
        refine r_iinc (lv' := [(2, Value.double y3), (4, Value.long y4), (6, Value.int (x6 + 1))]) dX0_ofDouble_46 2 rfl (by rfl) (Nat.le_of_ble_eq_true rfl) [1, 2, 0] rfl ?_
        refine r_goto (tgt := 18) dX0_ofDouble_49 (by decide) ?_
        exact ih y3 y4 (x6 + 1)
def f_X0_ofDouble (x0 : UInt64) : Option (Int64) :=
  if 0 < (dcg x0 FP.dconst0) then (f_X0_ofDouble_b18 FUEL x0 (1023 : Int64) (0 : Int32)) else (some (0 : Int64))
set_option maxRecDepth 100000 in
set_option maxHeartbeats 4000000 in
theorem wk_X0_ofDouble (Z : CSp) (w : Wd) (x0 : UInt64)  : Wm (EC Z) MX0_ofDouble (oL w) w 0 [(0, Value.double x0)] [] (f_X0_ofDouble x0) := by
  unfold f_X0_ofDouble
  refine r_dload_n dX0_ofDouble_0 0 rfl ?_
  refine r_dconst0 dX0_ofDouble_1 ?_
  refine r_dcmpg dX0_ofDouble_2 ?_
  refine r_if_gt (tgt := 8) dX0_ofDouble_3 (by decide) (fun _ => ?_) (fun _ => ?_)
  · refine r_dload_n dX0_ofDouble_8 0 rfl ?_
    refine r_dstore_n (lv' := [(0, Value.double x0), (2, Value.double x0)]) dX0_ofDouble_9 (Nat.le_of_ble_eq_true rfl) [1, 0] rfl ?_
    refine r_ldc2 dX0_ofDouble_10 kk_X0_13 ?_
    refine r_lstore (lv' := [(0, Value.double x0), (2, Value.double x0), (4, Value.long (1023 : Int64))]) dX0_ofDouble_13 (Nat.le_of_ble_eq_true rfl) [1, 2, 0] rfl ?_
    refine r_iconst (v := 0) dX0_ofDouble_15 (by decide) ?_
    refine r_istore (lv' := [(0, Value.double x0), (2, Value.double x0), (4, Value.long (1023 : Int64)), (6, Value.int (0 : Int32))]) dX0_ofDouble_16 (Nat.le_of_ble_eq_true rfl) [1, 2, 3, 0] rfl ?_
    refine r_lv [1, 2, 3] rfl ?_
    exact wk_X0_ofDouble_b18 Z w FUEL x0 (1023 : Int64) (0 : Int32)
  · refine r_lconst (v := 0) dX0_ofDouble_6 (by decide) ?_
    exact r_lret rfl dX0_ofDouble_7
theorem m_X0_ofDouble (Z : CSp) (w : Wd) (x0 : UInt64) : MetM (EC Z) yX0_ofDouble cX0_ofDouble 7 (some .long) { frames := 0, cells := 0, slots := 0, locals := 0 } (oL w) [Value.double x0] w (f_X0_ofDouble x0) := MetM_of (plainFor_of_name (by decide)) (Nat.le_of_ble_eq_true rfl) (wk_X0_ofDouble Z w x0)
abbrev MX0_ofFloat : Mt := (cX0_ofFloat, RX0, 4, some .int, { frames := 0, cells := 0, slots := 0, locals := 0 })
def f_X0_ofFloat_b92 (x1 : UInt32) (x2 : Int32) (s0 : Int32) : Option (Int32) :=
  if nn32 (FP.fsub x1 FP.fconst1) = true then (if nn32 (FP.fmul (FP.fsub x1 FP.fconst1) (1258291200 : UInt32)) = true then (some ((s0 ||| (x2 <<< ((23 : Int32) &&& 31))) ||| (FP.f2i (FP.fmul (FP.fsub x1 FP.fconst1) (1258291200 : UInt32))))) else none) else none
set_option maxRecDepth 100000 in
set_option maxHeartbeats 4000000 in
theorem wk_X0_ofFloat_b92 (Z : CSp) (w : Wd) (x1 : UInt32) (x2 : Int32) (s0 : Int32)  : Wm (EC Z) MX0_ofFloat (oI w) w 92 [(1, Value.float x1), (2, Value.int x2)] [Value.int s0] (f_X0_ofFloat_b92 x1 x2 s0) := by
  unfold f_X0_ofFloat_b92
  refine r_istore_n (lv' := [(1, Value.float x1), (2, Value.int x2), (3, Value.int s0)]) dX0_ofFloat_92 (Nat.le_of_ble_eq_true rfl) [1, 2, 0] rfl ?_
  refine r_iload_n dX0_ofFloat_93 2 rfl ?_
  refine r_iload_n dX0_ofFloat_94 1 rfl ?_
  refine r_bipush (v := 23) dX0_ofFloat_95 (by decide) ?_
  refine r_ishl dX0_ofFloat_97 ?_
  refine r_ior dX0_ofFloat_98 ?_
  refine r_fload_n dX0_ofFloat_99 0 rfl ?_
  refine r_fconst1 dX0_ofFloat_100 ?_
  refine r_fsub dX0_ofFloat_101 ?_
  refine r_ldcf dX0_ofFloat_102 kk_X0_12 ?_
  refine r_fmul dX0_ofFloat_104 ?_
  refine r_f2i dX0_ofFloat_105 ?_
  refine r_ior dX0_ofFloat_106 ?_
  exact r_iret rfl dX0_ofFloat_107
def f_X0_ofFloat_b80 (x0 : UInt32) (x1 : UInt32) (x2 : Int32) : Option (Int32) :=
  if 0 ≤ (fcg x0 FP.fconst0) then (f_X0_ofFloat_b92 x1 x2 (0 : Int32)) else (f_X0_ofFloat_b92 x1 x2 (-2147483648 : Int32))
set_option maxRecDepth 100000 in
set_option maxHeartbeats 4000000 in
theorem wk_X0_ofFloat_b80 (Z : CSp) (w : Wd) (x0 : UInt32) (x1 : UInt32) (x2 : Int32)  : Wm (EC Z) MX0_ofFloat (oI w) w 80 [(0, Value.float x0), (1, Value.float x1), (2, Value.int x2)] [] (f_X0_ofFloat_b80 x0 x1 x2) := by
  unfold f_X0_ofFloat_b80
  refine r_fload_n dX0_ofFloat_80 0 rfl ?_
  refine r_fconst0 dX0_ofFloat_81 ?_
  refine r_fcmpg dX0_ofFloat_82 ?_
  refine r_if_ge (tgt := 91) dX0_ofFloat_83 (by decide) (fun _ => ?_) (fun _ => ?_)
  · refine r_iconst (v := 0) dX0_ofFloat_91 (by decide) ?_
    refine r_lv [1, 2] rfl ?_
    exact wk_X0_ofFloat_b92 Z w x1 x2 (0 : Int32)
  · refine r_ldc dX0_ofFloat_86 kk_X0_11 ?_
    refine r_goto (tgt := 92) dX0_ofFloat_88 (by decide) ?_
    refine r_lv [1, 2] rfl ?_
    exact wk_X0_ofFloat_b92 Z w x1 x2 (-2147483648 : Int32)
def f_X0_ofFloat_b54 (x0 : UInt32) : Nat → UInt32 → Int32 → Int32 → Option (Int32)
  | 0, _, _, _ => none
  | n + 1, x1, x2, x3 =>
  if (1100 : Int32) ≤ x3 then (f_X0_ofFloat_b80 x0 x1 x2) else (if 0 ≤ (fcg x1 FP.fconst1) then (f_X0_ofFloat_b80 x0 x1 x2) else (if nn32 (FP.fmul x1 FP.fconst2) = true then (jlet (FP.fmul x1 FP.fconst2) (fun y2 => f_X0_ofFloat_b54 x0 n y2 (x2 + (-1)) (x3 + 1))) else none))
set_option maxRecDepth 100000 in
set_option maxHeartbeats 4000000 in
theorem wk_X0_ofFloat_b54 (Z : CSp) (w : Wd) (x0 : UInt32)  : ∀ (n : Nat) (x1 : UInt32) (x2 : Int32) (x3 : Int32), Wm (EC Z) MX0_ofFloat (oI w) w 54 [(0, Value.float x0), (1, Value.float x1), (2, Value.int x2), (3, Value.int x3)] [] (f_X0_ofFloat_b54 x0 n x1 x2 x3) := by
  intro n
  induction n with
  | zero =>
    intro x1 x2 x3
    exact r_none
  | succ n ih =>
    intro x1 x2 x3
    rw [f_X0_ofFloat_b54]
    refine r_iload_n dX0_ofFloat_54 3 rfl ?_
    refine r_sipush (v := 1100) dX0_ofFloat_55 (by decide) ?_
    refine r_icmp_ge (tgt := 80) dX0_ofFloat_58 (by decide) (fun _ => ?_) (fun _ => ?_)
    · refine r_lv [0, 1, 2] rfl ?_
      exact wk_X0_ofFloat_b80 Z w x0 x1 x2
    · refine r_fload_n dX0_ofFloat_61 1 rfl ?_
      refine r_fconst1 dX0_ofFloat_62 ?_
      refine r_fcmpg dX0_ofFloat_63 ?_
      refine r_if_ge (tgt := 80) dX0_ofFloat_64 (by decide) (fun _ => ?_) (fun _ => ?_)
      · refine r_lv [0, 1, 2] rfl ?_
        exact wk_X0_ofFloat_b80 Z w x0 x1 x2
      · refine r_fload_n dX0_ofFloat_67 1 rfl ?_
        refine r_fconst2 dX0_ofFloat_68 ?_
        refine r_fmul dX0_ofFloat_69 ?_
        refine r_letf (fun y2 => ?_)
        refine r_fstore_n (lv' := [(0, Value.float x0), (1, Value.float y2), (2, Value.int x2), (3, Value.int x3)]) dX0_ofFloat_70 (Nat.le_of_ble_eq_true rfl) [1, 0, 2, 3] rfl ?_
        refine r_iinc (lv' := [(0, Value.float x0), (1, Value.float y2), (2, Value.int (x2 + (-1))), (3, Value.int x3)]) dX0_ofFloat_71 2 rfl (by rfl) (Nat.le_of_ble_eq_true rfl) [1, 2, 0, 3] rfl ?_
        refine r_iinc (lv' := [(0, Value.float x0), (1, Value.float y2), (2, Value.int (x2 + (-1))), (3, Value.int (x3 + 1))]) dX0_ofFloat_74 3 rfl (by rfl) (Nat.le_of_ble_eq_true rfl) [1, 2, 3, 0] rfl ?_
        refine r_goto (tgt := 54) dX0_ofFloat_77 (by decide) ?_
        exact ih y2 (x2 + (-1)) (x3 + 1)
def f_X0_ofFloat_b52 (x0 : UInt32) (x1 : UInt32) (x2 : Int32) : Option (Int32) :=
  f_X0_ofFloat_b54 x0 FUEL x1 x2 (0 : Int32)
set_option maxRecDepth 100000 in
set_option maxHeartbeats 4000000 in
theorem wk_X0_ofFloat_b52 (Z : CSp) (w : Wd) (x0 : UInt32) (x1 : UInt32) (x2 : Int32)  : Wm (EC Z) MX0_ofFloat (oI w) w 52 [(0, Value.float x0), (1, Value.float x1), (2, Value.int x2)] [] (f_X0_ofFloat_b52 x0 x1 x2) := by
  unfold f_X0_ofFloat_b52
  refine r_iconst (v := 0) dX0_ofFloat_52 (by decide) ?_
  refine r_istore_n (lv' := [(0, Value.float x0), (1, Value.float x1), (2, Value.int x2), (3, Value.int (0 : Int32))]) dX0_ofFloat_53 (Nat.le_of_ble_eq_true rfl) [1, 2, 3, 0] rfl ?_
  exact wk_X0_ofFloat_b54 Z w x0 FUEL x1 x2 (0 : Int32)
def f_X0_ofFloat_b26 (x0 : UInt32) : Nat → UInt32 → Int32 → Int32 → Option (Int32)
  | 0, _, _, _ => none
  | n + 1, x1, x2, x3 =>
  if (1100 : Int32) ≤ x3 then (f_X0_ofFloat_b52 x0 x1 x2) else (if (fcl x1 FP.fconst2) < 0 then (f_X0_ofFloat_b52 x0 x1 x2) else (if nn32 (FP.fdiv x1 FP.fconst2) = true then (jlet (FP.fdiv x1 FP.fconst2) (fun y2 => f_X0_ofFloat_b26 x0 n y2 (x2 + 1) (x3 + 1))) else none))
set_option maxRecDepth 100000 in
set_option maxHeartbeats 4000000 in
theorem wk_X0_ofFloat_b26 (Z : CSp) (w : Wd) (x0 : UInt32)  : ∀ (n : Nat) (x1 : UInt32) (x2 : Int32) (x3 : Int32), Wm (EC Z) MX0_ofFloat (oI w) w 26 [(0, Value.float x0), (1, Value.float x1), (2, Value.int x2), (3, Value.int x3)] [] (f_X0_ofFloat_b26 x0 n x1 x2 x3) := by
  intro n
  induction n with
  | zero =>
    intro x1 x2 x3
    exact r_none
  | succ n ih =>
    intro x1 x2 x3
    rw [f_X0_ofFloat_b26]
    refine r_iload_n dX0_ofFloat_26 3 rfl ?_
    refine r_sipush (v := 1100) dX0_ofFloat_27 (by decide) ?_
    refine r_icmp_ge (tgt := 52) dX0_ofFloat_30 (by decide) (fun _ => ?_) (fun _ => ?_)
    · refine r_lv [0, 1, 2] rfl ?_
      exact wk_X0_ofFloat_b52 Z w x0 x1 x2
    · refine r_fload_n dX0_ofFloat_33 1 rfl ?_
      refine r_fconst2 dX0_ofFloat_34 ?_
      refine r_fcmpl dX0_ofFloat_35 ?_
      refine r_if_lt (tgt := 52) dX0_ofFloat_36 (by decide) (fun _ => ?_) (fun _ => ?_)
      · refine r_lv [0, 1, 2] rfl ?_
        exact wk_X0_ofFloat_b52 Z w x0 x1 x2
      · refine r_fload_n dX0_ofFloat_39 1 rfl ?_
        refine r_fconst2 dX0_ofFloat_40 ?_
        refine r_fdiv dX0_ofFloat_41 ?_
        refine r_letf (fun y2 => ?_)
        refine r_fstore_n (lv' := [(0, Value.float x0), (1, Value.float y2), (2, Value.int x2), (3, Value.int x3)]) dX0_ofFloat_42 (Nat.le_of_ble_eq_true rfl) [1, 0, 2, 3] rfl ?_
        refine r_iinc (lv' := [(0, Value.float x0), (1, Value.float y2), (2, Value.int (x2 + 1)), (3, Value.int x3)]) dX0_ofFloat_43 2 rfl (by rfl) (Nat.le_of_ble_eq_true rfl) [1, 2, 0, 3] rfl ?_
        refine r_iinc (lv' := [(0, Value.float x0), (1, Value.float y2), (2, Value.int (x2 + 1)), (3, Value.int (x3 + 1))]) dX0_ofFloat_46 3 rfl (by rfl) (Nat.le_of_ble_eq_true rfl) [1, 2, 3, 0] rfl ?_
        refine r_goto (tgt := 26) dX0_ofFloat_49 (by decide) ?_
        exact ih y2 (x2 + 1) (x3 + 1)
def f_X0_ofFloat_b20 (x0 : UInt32) (s0 : UInt32) : Option (Int32) :=
  f_X0_ofFloat_b26 x0 FUEL s0 (127 : Int32) (0 : Int32)
set_option maxRecDepth 100000 in
set_option maxHeartbeats 4000000 in
theorem wk_X0_ofFloat_b20 (Z : CSp) (w : Wd) (x0 : UInt32) (s0 : UInt32)  : Wm (EC Z) MX0_ofFloat (oI w) w 20 [(0, Value.float x0)] [Value.float s0] (f_X0_ofFloat_b20 x0 s0) := by
  unfold f_X0_ofFloat_b20
  refine r_fstore_n (lv' := [(0, Value.float x0), (1, Value.float s0)]) dX0_ofFloat_20 (Nat.le_of_ble_eq_true rfl) [1, 0] rfl ?_
  refine r_bipush (v := 127) dX0_ofFloat_21 (by decide) ?_
  refine r_istore_n (lv' := [(0, Value.float x0), (1, Value.float s0), (2, Value.int (127 : Int32))]) dX0_ofFloat_23 (Nat.le_of_ble_eq_true rfl) [1, 2, 0] rfl ?_
  refine r_iconst (v := 0) dX0_ofFloat_24 (by decide) ?_
  refine r_istore_n (lv' := [(0, Value.float x0), (1, Value.float s0), (2, Value.int (127 : Int32)), (3, Value.int (0 : Int32))]) dX0_ofFloat_25 (Nat.le_of_ble_eq_true rfl) [1, 2, 3, 0] rfl ?_
  exact wk_X0_ofFloat_b26 Z w x0 FUEL s0 (127 : Int32) (0 : Int32)
def f_X0_ofFloat (x0 : UInt32) : Option (Int32) :=
  if (fcl x0 FP.fconst0) = 0 then (some (0 : Int32)) else (if 0 ≤ (fcg x0 FP.fconst0) then (f_X0_ofFloat_b20 x0 x0) else (f_X0_ofFloat_b20 x0 (FP.fneg x0)))
set_option maxRecDepth 100000 in
set_option maxHeartbeats 4000000 in
theorem wk_X0_ofFloat (Z : CSp) (w : Wd) (x0 : UInt32)  : Wm (EC Z) MX0_ofFloat (oI w) w 0 [(0, Value.float x0)] [] (f_X0_ofFloat x0) := by
  unfold f_X0_ofFloat
  refine r_fload_n dX0_ofFloat_0 0 rfl ?_
  refine r_fconst0 dX0_ofFloat_1 ?_
  refine r_fcmpl dX0_ofFloat_2 ?_
  refine r_if_ne (tgt := 8) dX0_ofFloat_3 (by decide) (fun _ => ?_) (fun _ => ?_)
  · refine r_fload_n dX0_ofFloat_8 0 rfl ?_
    refine r_fconst0 dX0_ofFloat_9 ?_
    refine r_fcmpg dX0_ofFloat_10 ?_
    refine r_if_ge (tgt := 19) dX0_ofFloat_11 (by decide) (fun _ => ?_) (fun _ => ?_)
    · refine r_fload_n dX0_ofFloat_19 0 rfl ?_
      exact wk_X0_ofFloat_b20 Z w x0 x0
    · refine r_fload_n dX0_ofFloat_14 0 rfl ?_
      refine r_fneg dX0_ofFloat_15 ?_
      refine r_goto (tgt := 20) dX0_ofFloat_16 (by decide) ?_
      exact wk_X0_ofFloat_b20 Z w x0 (FP.fneg x0)
  · refine r_iconst (v := 0) dX0_ofFloat_6 (by decide) ?_
    exact r_iret rfl dX0_ofFloat_7
theorem m_X0_ofFloat (Z : CSp) (w : Wd) (x0 : UInt32) : MetM (EC Z) yX0_ofFloat cX0_ofFloat 4 (some .int) { frames := 0, cells := 0, slots := 0, locals := 0 } (oI w) [Value.float x0] w (f_X0_ofFloat x0) := MetM_of (plainFor_of_name (by decide)) (Nat.le_of_ble_eq_true rfl) (wk_X0_ofFloat Z w x0)
abbrev MX5_within : Mt := (cX5_within, RX5, 3, some .boolean, { frames := 0, cells := 0, slots := 0, locals := 0 })
def f_X5_within_b15 (s0 : Int32) : Option (Int32) :=
  if zb s0 = true then some s0 else none
set_option maxRecDepth 100000 in
set_option maxHeartbeats 4000000 in
theorem wk_X5_within_b15 (Z : CSp) (w : Wd) (s0 : Int32)  : Wm (EC Z) MX5_within (oI w) w 15 [] [Value.int s0] (f_X5_within_b15 s0) := by
  unfold f_X5_within_b15
  exact r_zret rfl dX5_within_15
def f_X5_within_b14  : Option (Int32) :=
  f_X5_within_b15 (0 : Int32)
set_option maxRecDepth 100000 in
set_option maxHeartbeats 4000000 in
theorem wk_X5_within_b14 (Z : CSp) (w : Wd)   : Wm (EC Z) MX5_within (oI w) w 14 [] [] (f_X5_within_b14 ) := by
  unfold f_X5_within_b14
  refine r_iconst (v := 0) dX5_within_14 (by decide) ?_
  exact wk_X5_within_b15 Z w (0 : Int32)
def f_X5_within (x0 : Int32) (x1 : Int32) (x2 : Int32) : Option (Int32) :=
  if x0 < x1 then (f_X5_within_b14) else (if x2 < x0 then (f_X5_within_b14) else (f_X5_within_b15 (1 : Int32)))
set_option maxRecDepth 100000 in
set_option maxHeartbeats 4000000 in
theorem wk_X5_within (Z : CSp) (w : Wd) (x0 : Int32) (x1 : Int32) (x2 : Int32)  : Wm (EC Z) MX5_within (oI w) w 0 [(0, Value.int x0), (1, Value.int x1), (2, Value.int x2)] [] (f_X5_within x0 x1 x2) := by
  unfold f_X5_within
  refine r_iload_n dX5_within_0 0 rfl ?_
  refine r_iload_n dX5_within_1 1 rfl ?_
  refine r_icmp_lt (tgt := 14) dX5_within_2 (by decide) (fun _ => ?_) (fun _ => ?_)
  · refine r_lv [] rfl ?_
    exact wk_X5_within_b14 Z w
  · refine r_iload_n dX5_within_5 0 rfl ?_
    refine r_iload_n dX5_within_6 2 rfl ?_
    refine r_icmp_gt (tgt := 14) dX5_within_7 (by decide) (fun _ => ?_) (fun _ => ?_)
    · refine r_lv [] rfl ?_
      exact wk_X5_within_b14 Z w
    · refine r_iconst (v := 1) dX5_within_10 (by decide) ?_
      refine r_goto (tgt := 15) dX5_within_11 (by decide) ?_
      refine r_lv [] rfl ?_
      exact wk_X5_within_b15 Z w (1 : Int32)
theorem m_X5_within (Z : CSp) (w : Wd) (x0 : Int32) (x1 : Int32) (x2 : Int32) : MetM (EC Z) yX5_within cX5_within 3 (some .boolean) { frames := 0, cells := 0, slots := 0, locals := 0 } (oI w) [Value.int x0, Value.int x1, Value.int x2] w (f_X5_within x0 x1 x2) := MetM_of (plainFor_of_name (by decide)) (Nat.le_of_ble_eq_true rfl) (wk_X5_within Z w x0 x1 x2)
abbrev MX3_awayFrom : Mt := (cX3_awayFrom, RX3, 4, some .int, { frames := 0, cells := 0, slots := 0, locals := 0 })
def f_X3_awayFrom_b29 (s0 : Int32) : Option (Int32) :=
  some s0
set_option maxRecDepth 100000 in
set_option maxHeartbeats 4000000 in
theorem wk_X3_awayFrom_b29 (Z : CSp) (w : Wd) (s0 : Int32)  : Wm (EC Z) MX3_awayFrom (oI w) w 29 [] [Value.int s0] (f_X3_awayFrom_b29 s0) := by
  unfold f_X3_awayFrom_b29
  exact r_iret rfl dX3_awayFrom_29
def f_X3_awayFrom (x0 : Int32) (x1 : Int32) (x2 : Int32) : Option (Int32) :=
  if (1 : Int32) ≤ x2 then (if ¬ x2 = 0 then (jlet (jrem ((x0 - x1) + x2) x2) (fun y1 => if (x2 - y1) < y1 then (f_X3_awayFrom_b29 (x2 - y1)) else (f_X3_awayFrom_b29 y1))) else none) else (some (0 : Int32))
set_option maxRecDepth 100000 in
set_option maxHeartbeats 4000000 in
theorem wk_X3_awayFrom (Z : CSp) (w : Wd) (x0 : Int32) (x1 : Int32) (x2 : Int32)  : Wm (EC Z) MX3_awayFrom (oI w) w 0 [(0, Value.int x0), (1, Value.int x1), (2, Value.int x2)] [] (f_X3_awayFrom x0 x1 x2) := by
  unfold f_X3_awayFrom
  refine r_iload_n dX3_awayFrom_0 2 rfl ?_
  refine r_iconst (v := 1) dX3_awayFrom_1 (by decide) ?_
  refine r_icmp_ge (tgt := 7) dX3_awayFrom_2 (by decide) (fun _ => ?_) (fun _ => ?_)
  · refine r_iload_n dX3_awayFrom_7 0 rfl ?_
    refine r_iload_n dX3_awayFrom_8 1 rfl ?_
    refine r_isub dX3_awayFrom_9 ?_
    refine r_iload_n dX3_awayFrom_10 2 rfl ?_
    refine r_iadd dX3_awayFrom_11 ?_
    refine r_iload_n dX3_awayFrom_12 2 rfl ?_
    refine r_irem dX3_awayFrom_13 ?_
    refine r_leti (fun y1 => ?_)
    refine r_istore_n (lv' := [(0, Value.int x0), (1, Value.int x1), (2, Value.int x2), (3, Value.int y1)]) dX3_awayFrom_14 (Nat.le_of_ble_eq_true rfl) [1, 2, 3, 0] rfl ?_
    refine r_iload_n dX3_awayFrom_15 3 rfl ?_
    refine r_iload_n dX3_awayFrom_16 2 rfl ?_
    refine r_iload_n dX3_awayFrom_17 3 rfl ?_
    refine r_isub dX3_awayFrom_18 ?_
    refine r_icmp_gt (tgt := 26) dX3_awayFrom_19 (by decide) (fun _ => ?_) (fun _ => ?_)
    · refine r_iload_n dX3_awayFrom_26 2 rfl ?_
      refine r_iload_n dX3_awayFrom_27 3 rfl ?_
      refine r_isub dX3_awayFrom_28 ?_
      refine r_lv [] rfl ?_
      exact wk_X3_awayFrom_b29 Z w (x2 - y1)
    · refine r_iload_n dX3_awayFrom_22 3 rfl ?_
      refine r_goto (tgt := 29) dX3_awayFrom_23 (by decide) ?_
      refine r_lv [] rfl ?_
      exact wk_X3_awayFrom_b29 Z w y1
  · refine r_iconst (v := 0) dX3_awayFrom_5 (by decide) ?_
    exact r_iret rfl dX3_awayFrom_6
theorem m_X3_awayFrom (Z : CSp) (w : Wd) (x0 : Int32) (x1 : Int32) (x2 : Int32) : MetM (EC Z) yX3_awayFrom cX3_awayFrom 4 (some .int) { frames := 0, cells := 0, slots := 0, locals := 0 } (oI w) [Value.int x0, Value.int x1, Value.int x2] w (f_X3_awayFrom x0 x1 x2) := MetM_of (plainFor_of_name (by decide)) (Nat.le_of_ble_eq_true rfl) (wk_X3_awayFrom Z w x0 x1 x2)
abbrev MX3_gap : Mt := (cX3_gap, RX3, 6, some .int, { frames := 0, cells := 0, slots := 0, locals := 0 })
def f_X3_gap_b41 (s0 : Int32) : Option (Int32) :=
  some s0
set_option maxRecDepth 100000 in
set_option maxHeartbeats 4000000 in
theorem wk_X3_gap_b41 (Z : CSp) (w : Wd) (s0 : Int32)  : Wm (EC Z) MX3_gap (oI w) w 41 [] [Value.int s0] (f_X3_gap_b41 s0) := by
  unfold f_X3_gap_b41
  exact r_iret rfl dX3_gap_41
def f_X3_gap_b35  : Option (Int32) :=
  f_X3_gap_b41 (0 : Int32)
set_option maxRecDepth 100000 in
set_option maxHeartbeats 4000000 in
theorem wk_X3_gap_b35 (Z : CSp) (w : Wd)   : Wm (EC Z) MX3_gap (oI w) w 35 [] [] (f_X3_gap_b35 ) := by
  unfold f_X3_gap_b35
  refine r_iconst (v := 0) dX3_gap_35 (by decide) ?_
  refine r_goto (tgt := 41) dX3_gap_36 (by decide) ?_
  exact wk_X3_gap_b41 Z w (0 : Int32)
def f_X3_gap (x0 : Int32) (x1 : Int32) (x2 : Int32) (x3 : Int32) : Option (Int32) :=
  if (1 : Int32) ≤ x2 then (if ¬ x2 = 0 then (jlet (jrem ((x0 - x1) + x2) x2) (fun y1 => jlet ((x2 - x3) - y1) (fun y2 => if y1 ≤ x3 then (f_X3_gap_b35) else (if 0 ≤ y2 then (f_X3_gap_b41 y2) else (f_X3_gap_b35))))) else none) else (some (0 : Int32))
set_option maxRecDepth 100000 in
set_option maxHeartbeats 4000000 in
theorem wk_X3_gap (Z : CSp) (w : Wd) (x0 : Int32) (x1 : Int32) (x2 : Int32) (x3 : Int32)  : Wm (EC Z) MX3_gap (oI w) w 0 [(0, Value.int x0), (1, Value.int x1), (2, Value.int x2), (3, Value.int x3)] [] (f_X3_gap x0 x1 x2 x3) := by
  unfold f_X3_gap
  refine r_iload_n dX3_gap_0 2 rfl ?_
  refine r_iconst (v := 1) dX3_gap_1 (by decide) ?_
  refine r_icmp_ge (tgt := 7) dX3_gap_2 (by decide) (fun _ => ?_) (fun _ => ?_)
  · refine r_iload_n dX3_gap_7 0 rfl ?_
    refine r_iload_n dX3_gap_8 1 rfl ?_
    refine r_isub dX3_gap_9 ?_
    refine r_iload_n dX3_gap_10 2 rfl ?_
    refine r_iadd dX3_gap_11 ?_
    refine r_iload_n dX3_gap_12 2 rfl ?_
    refine r_irem dX3_gap_13 ?_
    refine r_leti (fun y1 => ?_)
    refine r_istore (lv' := [(0, Value.int x0), (1, Value.int x1), (2, Value.int x2), (3, Value.int x3), (4, Value.int y1)]) dX3_gap_14 (Nat.le_of_ble_eq_true rfl) [1, 2, 3, 4, 0] rfl ?_
    refine r_iload_n dX3_gap_16 2 rfl ?_
    refine r_iload_n dX3_gap_17 3 rfl ?_
    refine r_isub dX3_gap_18 ?_
    refine r_iload dX3_gap_19 4 rfl ?_
    refine r_isub dX3_gap_21 ?_
    refine r_leti (fun y2 => ?_)
    refine r_istore (lv' := [(0, Value.int x0), (1, Value.int x1), (2, Value.int x2), (3, Value.int x3), (4, Value.int y1), (5, Value.int y2)]) dX3_gap_22 (Nat.le_of_ble_eq_true rfl) [1, 2, 3, 4, 5, 0] rfl ?_
    refine r_iload dX3_gap_24 4 rfl ?_
    refine r_iload_n dX3_gap_26 3 rfl ?_
    refine r_icmp_le (tgt := 35) dX3_gap_27 (by decide) (fun _ => ?_) (fun _ => ?_)
    · refine r_lv [] rfl ?_
      exact wk_X3_gap_b35 Z w
    · refine r_iload dX3_gap_30 5 rfl ?_
      refine r_if_ge (tgt := 39) dX3_gap_32 (by decide) (fun _ => ?_) (fun _ => ?_)
      · refine r_iload dX3_gap_39 5 rfl ?_
        refine r_lv [] rfl ?_
        exact wk_X3_gap_b41 Z w y2
      · refine r_lv [] rfl ?_
        exact wk_X3_gap_b35 Z w
  · refine r_iconst (v := 0) dX3_gap_5 (by decide) ?_
    exact r_iret rfl dX3_gap_6
theorem m_X3_gap (Z : CSp) (w : Wd) (x0 : Int32) (x1 : Int32) (x2 : Int32) (x3 : Int32) : MetM (EC Z) yX3_gap cX3_gap 6 (some .int) { frames := 0, cells := 0, slots := 0, locals := 0 } (oI w) [Value.int x0, Value.int x1, Value.int x2, Value.int x3] w (f_X3_gap x0 x1 x2 x3) := MetM_of (plainFor_of_name (by decide)) (Nat.le_of_ble_eq_true rfl) (wk_X3_gap Z w x0 x1 x2 x3)
abbrev MX3_phase : Mt := (cX3_phase, RX3, 4, some .float, { frames := 1, cells := 0, slots := 0, locals := 21 })
def f_X3_phase_b43 (s0 : UInt32) : Option (UInt32) :=
  some s0
set_option maxRecDepth 100000 in
set_option maxHeartbeats 4000000 in
theorem wk_X3_phase_b43 (Z : CSp) (w : Wd) (s0 : UInt32)  : Wm (EC Z) MX3_phase (oF w) w 43 [] [Value.float s0] (f_X3_phase_b43 s0) := by
  unfold f_X3_phase_b43
  exact r_fret rfl dX3_phase_43
def f_X3_phase (x0 : Int32) (x1 : Int32) : Option (UInt32) :=
  jlet ((if 0 ≤ x0 then x0 else 0 - x0) + (if 0 ≤ x1 then x1 else 0 - x1)) (fun y1 => if y1 = 0 then (some (3212836864 : UInt32)) else (if nn32 (FP.fdiv (FP.i2f x1) (FP.i2f y1)) = true then (jlet (FP.fdiv (FP.i2f x1) (FP.i2f y1)) (fun y2 => if 0 ≤ x0 then (if x1 < 0 then (if nn32 (FP.fadd (1082130432 : UInt32) y2) = true then (f_X3_phase_b43 (FP.fadd (1082130432 : UInt32) y2)) else none) else (f_X3_phase_b43 y2)) else (if nn32 (FP.fsub FP.fconst2 y2) = true then (some (FP.fsub FP.fconst2 y2)) else none))) else none))
set_option maxRecDepth 100000 in
set_option maxHeartbeats 4000000 in
theorem wk_X3_phase (Z : CSp) (w : Wd) (x0 : Int32) (x1 : Int32)  : Wm (EC Z) MX3_phase (oF w) w 0 [(0, Value.int x0), (1, Value.int x1)] [] (f_X3_phase x0 x1) := by
  unfold f_X3_phase
  refine r_iload_n dX3_phase_0 0 rfl ?_
  refine r_mabs km_X3_9 ⟨(Nat.le_of_ble_eq_true rfl), (Nat.le_of_ble_eq_true rfl)⟩ dX3_phase_1 ?_
  refine r_iload_n dX3_phase_4 1 rfl ?_
  refine r_mabs km_X3_9 ⟨(Nat.le_of_ble_eq_true rfl), (Nat.le_of_ble_eq_true rfl)⟩ dX3_phase_5 ?_
  refine r_iadd dX3_phase_8 ?_
  refine r_leti (fun y1 => ?_)
  refine r_istore_n (lv' := [(0, Value.int x0), (1, Value.int x1), (2, Value.int y1)]) dX3_phase_9 (Nat.le_of_ble_eq_true rfl) [1, 2, 0] rfl ?_
  refine r_iload_n dX3_phase_10 2 rfl ?_
  refine r_if_ne (tgt := 17) dX3_phase_11 (by decide) (fun _ => ?_) (fun _ => ?_)
  · refine r_iload_n dX3_phase_17 1 rfl ?_
    refine r_i2f dX3_phase_18 ?_
    refine r_iload_n dX3_phase_19 2 rfl ?_
    refine r_i2f dX3_phase_20 ?_
    refine r_fdiv dX3_phase_21 ?_
    refine r_letf (fun y2 => ?_)
    refine r_fstore_n (lv' := [(0, Value.int x0), (1, Value.int x1), (2, Value.int y1), (3, Value.float y2)]) dX3_phase_22 (Nat.le_of_ble_eq_true rfl) [1, 2, 3, 0] rfl ?_
    refine r_iload_n dX3_phase_23 0 rfl ?_
    refine r_if_ge (tgt := 31) dX3_phase_24 (by decide) (fun _ => ?_) (fun _ => ?_)
    · refine r_iload_n dX3_phase_31 1 rfl ?_
      refine r_if_lt (tgt := 39) dX3_phase_32 (by decide) (fun _ => ?_) (fun _ => ?_)
      · refine r_ldcf dX3_phase_39 kk_X3_22 ?_
        refine r_fload_n dX3_phase_41 3 rfl ?_
        refine r_fadd dX3_phase_42 ?_
        refine r_lv [] rfl ?_
        exact wk_X3_phase_b43 Z w (FP.fadd (1082130432 : UInt32) y2)
      · refine r_fload_n dX3_phase_35 3 rfl ?_
        refine r_goto (tgt := 43) dX3_phase_36 (by decide) ?_
        refine r_lv [] rfl ?_
        exact wk_X3_phase_b43 Z w y2
    · refine r_fconst2 dX3_phase_27 ?_
      refine r_fload_n dX3_phase_28 3 rfl ?_
      refine r_fsub dX3_phase_29 ?_
      exact r_fret rfl dX3_phase_30
  · refine r_ldcf dX3_phase_14 kk_X3_21 ?_
    exact r_fret rfl dX3_phase_16
theorem m_X3_phase (Z : CSp) (w : Wd) (x0 : Int32) (x1 : Int32) : MetM (EC Z) yX3_phase cX3_phase 4 (some .float) { frames := 1, cells := 0, slots := 0, locals := 21 } (oF w) [Value.int x0, Value.int x1] w (f_X3_phase x0 x1) := MetM_of (plainFor_of_name (by decide)) (Nat.le_of_ble_eq_true rfl) (wk_X3_phase Z w x0 x1)
abbrev MX3_residue : Mt := (cX3_residue, RX3, 3, some .int, { frames := 2, cells := 0, slots := 0, locals := 44 })
def f_X3_residue_b13  : Option (Int32) :=
  some (-10001 : Int32)
set_option maxRecDepth 100000 in
set_option maxHeartbeats 4000000 in
theorem wk_X3_residue_b13 (Z : CSp) (w : Wd)   : Wm (EC Z) MX3_residue (oI w) w 13 [] [] (f_X3_residue_b13 ) := by
  unfold f_X3_residue_b13
  refine r_sipush (v := -10001) dX3_residue_13 (by decide) ?_
  exact r_iret rfl dX3_residue_16
def f_X3_residue_b8 (x0 : Int32) (x1 : Int32) (x2 : Int32) : Option (Int32) :=
  if (1 : Int32) ≤ x2 then ((f_X3_phase x0 x1).bind (fun v2 => if nn32 (FP.fmul v2 (FP.i2f x2)) = true then (if nn32 (FP.fdiv (FP.fmul v2 (FP.i2f x2)) (1082130432 : UInt32)) = true then (if nn32 (FP.fadd (FP.fdiv (FP.fmul v2 (FP.i2f x2)) (1082130432 : UInt32)) (1056964608 : UInt32)) = true then (if ¬ x2 = 0 then (some (jrem (FP.f2i (FP.fadd (FP.fdiv (FP.fmul v2 (FP.i2f x2)) (1082130432 : UInt32)) (1056964608 : UInt32))) x2)) else none) else none) else none) else none)) else (f_X3_residue_b13)
set_option maxRecDepth 100000 in
set_option maxHeartbeats 4000000 in
theorem wk_X3_residue_b8 (Z : CSp) (w : Wd) (x0 : Int32) (x1 : Int32) (x2 : Int32)  : Wm (EC Z) MX3_residue (oI w) w 8 [(0, Value.int x0), (1, Value.int x1), (2, Value.int x2)] [] (f_X3_residue_b8 x0 x1 x2) := by
  unfold f_X3_residue_b8
  refine r_iload_n dX3_residue_8 2 rfl ?_
  refine r_iconst (v := 1) dX3_residue_9 (by decide) ?_
  refine r_icmp_ge (tgt := 17) dX3_residue_10 (by decide) (fun _ => ?_) (fun _ => ?_)
  · refine r_iload_n dX3_residue_17 0 rfl ?_
    refine r_iload_n dX3_residue_18 1 rfl ?_
    refine r_callS_F [Value.int x0, Value.int x1] cfX3_phase (m_X3_phase Z w x0 x1) km_X3_23 ⟨rfl, rfl, (Nat.le_of_ble_eq_true rfl), (Nat.le_of_ble_eq_true rfl)⟩ rfl rfl (Nat.le_of_ble_eq_true rfl) dX3_residue_19 (fun v2 => ?_)
    refine r_iload_n dX3_residue_22 2 rfl ?_
    refine r_i2f dX3_residue_23 ?_
    refine r_fmul dX3_residue_24 ?_
    refine r_ldcf dX3_residue_25 kk_X3_22 ?_
    refine r_fdiv dX3_residue_27 ?_
    refine r_ldcf dX3_residue_28 kk_X3_27 ?_
    refine r_fadd dX3_residue_30 ?_
    refine r_f2i dX3_residue_31 ?_
    refine r_iload_n dX3_residue_32 2 rfl ?_
    refine r_irem dX3_residue_33 ?_
    exact r_iret rfl dX3_residue_34
  · refine r_lv [] rfl ?_
    exact wk_X3_residue_b13 Z w
def f_X3_residue (x0 : Int32) (x1 : Int32) (x2 : Int32) : Option (Int32) :=
  if x0 = 0 then (if x1 = 0 then (f_X3_residue_b13) else (f_X3_residue_b8 x0 x1 x2)) else (f_X3_residue_b8 x0 x1 x2)
set_option maxRecDepth 100000 in
set_option maxHeartbeats 4000000 in
theorem wk_X3_residue (Z : CSp) (w : Wd) (x0 : Int32) (x1 : Int32) (x2 : Int32)  : Wm (EC Z) MX3_residue (oI w) w 0 [(0, Value.int x0), (1, Value.int x1), (2, Value.int x2)] [] (f_X3_residue x0 x1 x2) := by
  unfold f_X3_residue
  refine r_iload_n dX3_residue_0 0 rfl ?_
  refine r_if_ne (tgt := 8) dX3_residue_1 (by decide) (fun _ => ?_) (fun _ => ?_)
  · exact wk_X3_residue_b8 Z w x0 x1 x2
  · refine r_iload_n dX3_residue_4 1 rfl ?_
    refine r_if_eq (tgt := 13) dX3_residue_5 (by decide) (fun _ => ?_) (fun _ => ?_)
    · refine r_lv [] rfl ?_
      exact wk_X3_residue_b13 Z w
    · exact wk_X3_residue_b8 Z w x0 x1 x2
theorem m_X3_residue (Z : CSp) (w : Wd) (x0 : Int32) (x1 : Int32) (x2 : Int32) : MetM (EC Z) yX3_residue cX3_residue 3 (some .int) { frames := 2, cells := 0, slots := 0, locals := 44 } (oI w) [Value.int x0, Value.int x1, Value.int x2] w (f_X3_residue x0 x1 x2) := MetM_of (plainFor_of_name (by decide)) (Nat.le_of_ble_eq_true rfl) (wk_X3_residue Z w x0 x1 x2)
abbrev MX3_size : Mt := (cX3_size, RX3, 2, some .int, { frames := 1, cells := 0, slots := 0, locals := 21 })
def f_X3_size (x0 : Int32) (x1 : Int32) : Option (Int32) :=
  some ((if 0 ≤ x0 then x0 else 0 - x0) + (if 0 ≤ x1 then x1 else 0 - x1))
set_option maxRecDepth 100000 in
set_option maxHeartbeats 4000000 in
theorem wk_X3_size (Z : CSp) (w : Wd) (x0 : Int32) (x1 : Int32)  : Wm (EC Z) MX3_size (oI w) w 0 [(0, Value.int x0), (1, Value.int x1)] [] (f_X3_size x0 x1) := by
  unfold f_X3_size
  refine r_iload_n dX3_size_0 0 rfl ?_
  refine r_mabs km_X3_9 ⟨(Nat.le_of_ble_eq_true rfl), (Nat.le_of_ble_eq_true rfl)⟩ dX3_size_1 ?_
  refine r_iload_n dX3_size_4 1 rfl ?_
  refine r_mabs km_X3_9 ⟨(Nat.le_of_ble_eq_true rfl), (Nat.le_of_ble_eq_true rfl)⟩ dX3_size_5 ?_
  refine r_iadd dX3_size_8 ?_
  exact r_iret rfl dX3_size_9
theorem m_X3_size (Z : CSp) (w : Wd) (x0 : Int32) (x1 : Int32) : MetM (EC Z) yX3_size cX3_size 2 (some .int) { frames := 1, cells := 0, slots := 0, locals := 21 } (oI w) [Value.int x0, Value.int x1] w (f_X3_size x0 x1) := MetM_of (plainFor_of_name (by decide)) (Nat.le_of_ble_eq_true rfl) (wk_X3_size Z w x0 x1)
abbrev MX3_strength : Mt := (cX3_strength, RX3, 2, some .float, { frames := 2, cells := 0, slots := 0, locals := 42 })
def f_X3_strength (x0 : Int32) (x1 : Int32) : Option (UInt32) :=
  (f_X3_size x0 x1).bind (fun v1 => if nn32 (FP.fdiv (FP.i2f v1) FP.fconst2) = true then (some (FP.fdiv (FP.i2f v1) FP.fconst2)) else none)
set_option maxRecDepth 100000 in
set_option maxHeartbeats 4000000 in
theorem wk_X3_strength (Z : CSp) (w : Wd) (x0 : Int32) (x1 : Int32)  : Wm (EC Z) MX3_strength (oF w) w 0 [(0, Value.int x0), (1, Value.int x1)] [] (f_X3_strength x0 x1) := by
  unfold f_X3_strength
  refine r_iload_n dX3_strength_0 0 rfl ?_
  refine r_iload_n dX3_strength_1 1 rfl ?_
  refine r_callS_I [Value.int x0, Value.int x1] cfX3_size (m_X3_size Z w x0 x1) km_X3_15 ⟨rfl, rfl, (Nat.le_of_ble_eq_true rfl), (Nat.le_of_ble_eq_true rfl)⟩ rfl rfl (Nat.le_of_ble_eq_true rfl) dX3_strength_2 (fun v1 => ?_)
  refine r_i2f dX3_strength_5 ?_
  refine r_fconst2 dX3_strength_6 ?_
  refine r_fdiv dX3_strength_7 ?_
  exact r_fret rfl dX3_strength_8
theorem m_X3_strength (Z : CSp) (w : Wd) (x0 : Int32) (x1 : Int32) : MetM (EC Z) yX3_strength cX3_strength 2 (some .float) { frames := 2, cells := 0, slots := 0, locals := 42 } (oF w) [Value.int x0, Value.int x1] w (f_X3_strength x0 x1) := MetM_of (plainFor_of_name (by decide)) (Nat.le_of_ble_eq_true rfl) (wk_X3_strength Z w x0 x1)
abbrev MJ7_fill_53178_13 : Mt := (cJ7_fill_53178, RJ7, 4, none, { frames := 0, cells := 0, slots := 0, locals := 0 })
def f_J7_fill_53178_13_b5 (x1 : Int32) (x3 : Int32) : Nat → Int32 → Wd → Option (Wd)
  | 0, _, _ => none
  | n + 1, x2, w =>
  if x3 ≤ x2 then (some w) else (if inb x2 384 = true then (wput w 13 (x2).toNatClampNeg x1 (fun w2 => f_J7_fill_53178_13_b5 x1 x3 n (x2 + 1) w2)) else none)
set_option maxRecDepth 100000 in
set_option maxHeartbeats 4000000 in
theorem wk_J7_fill_53178_13_b5 (Z : CSp) (x1 : Int32) (x3 : Int32)  : ∀ (n : Nat) (x2 : Int32) (w : Wd), Wm (EC Z) MJ7_fill_53178_13 oVw w 5 [(0, Value.ref (aC Z 13)), (1, Value.int x1), (2, Value.int x2), (3, Value.int x3)] [] (f_J7_fill_53178_13_b5 x1 x3 n x2 w) := by
  intro n
  induction n with
  | zero =>
    intro x2 w
    exact r_none
  | succ n ih =>
    intro x2 w
    rw [f_J7_fill_53178_13_b5]
    refine r_iload_n dJ7_fill_53178_5 2 rfl ?_
    refine r_iload_n dJ7_fill_53178_6 3 rfl ?_
    refine r_icmp_ge (tgt := 20) dJ7_fill_53178_7 (by decide) (fun _ => ?_) (fun _ => ?_)
    · exact r_vret rfl dJ7_fill_53178_20
    · refine r_aload_n dJ7_fill_53178_10 0 rfl ?_
      refine r_iload_n dJ7_fill_53178_11 2 rfl ?_
      refine r_iload_n dJ7_fill_53178_12 1 rfl ?_
      refine r_iast (qC_13 Z w) rfl (uC_13 Z w x1) dJ7_fill_53178_13 (fun w2 => ?_)
      refine r_iinc (lv' := [(0, Value.ref (aC Z 13)), (1, Value.int x1), (2, Value.int (x2 + 1)), (3, Value.int x3)]) dJ7_fill_53178_14 2 rfl (by rfl) (Nat.le_of_ble_eq_true rfl) [1, 2, 0, 3] rfl ?_
      refine r_goto (tgt := 5) dJ7_fill_53178_17 (by decide) ?_
      exact ih (x2 + 1) w2
def f_J7_fill_53178_13 (x1 : Int32) (w : Wd) : Option (Wd) :=
  f_J7_fill_53178_13_b5 x1 (384 : Int32) FUEL (0 : Int32) w
set_option maxRecDepth 100000 in
set_option maxHeartbeats 4000000 in
theorem wk_J7_fill_53178_13 (Z : CSp) (w : Wd) (x1 : Int32)  : Wm (EC Z) MJ7_fill_53178_13 oVw w 0 [(0, Value.ref (aC Z 13)), (1, Value.int x1)] [] (f_J7_fill_53178_13 x1 w) := by
  unfold f_J7_fill_53178_13
  refine r_iconst (v := 0) dJ7_fill_53178_0 (by decide) ?_
  refine r_istore_n (lv' := [(0, Value.ref (aC Z 13)), (1, Value.int x1), (2, Value.int (0 : Int32))]) dJ7_fill_53178_1 (Nat.le_of_ble_eq_true rfl) [1, 2, 0] rfl ?_
  refine r_aload_n dJ7_fill_53178_2 0 rfl ?_
  refine r_alen (v := 384) (qC_13 Z w) rfl rfl dJ7_fill_53178_3 ?_
  refine r_istore_n (lv' := [(0, Value.ref (aC Z 13)), (1, Value.int x1), (2, Value.int (0 : Int32)), (3, Value.int (384 : Int32))]) dJ7_fill_53178_4 (Nat.le_of_ble_eq_true rfl) [1, 2, 3, 0] rfl ?_
  exact wk_J7_fill_53178_13_b5 Z x1 (384 : Int32) FUEL (0 : Int32) w
theorem m_J7_fill_53178_13 (Z : CSp) (w : Wd) (x1 : Int32) : MetM (EC Z) yJ7_fill_53178 cJ7_fill_53178 4 none { frames := 0, cells := 0, slots := 0, locals := 0 } oVw [Value.ref (aC Z 13), Value.int x1] w (f_J7_fill_53178_13 x1 w) := MetM_of (plainFor_of_name (by decide)) (Nat.le_of_ble_eq_true rfl) (wk_J7_fill_53178_13 Z w x1)
abbrev MJ7_fill_53178_2 : Mt := (cJ7_fill_53178, RJ7, 4, none, { frames := 0, cells := 0, slots := 0, locals := 0 })
def f_J7_fill_53178_2_b5 (x1 : Int32) (x3 : Int32) : Nat → Int32 → Wd → Option (Wd)
  | 0, _, _ => none
  | n + 1, x2, w =>
  if x3 ≤ x2 then (some w) else (if inb x2 32 = true then (wput w 2 (x2).toNatClampNeg x1 (fun w2 => f_J7_fill_53178_2_b5 x1 x3 n (x2 + 1) w2)) else none)
set_option maxRecDepth 100000 in
set_option maxHeartbeats 4000000 in
theorem wk_J7_fill_53178_2_b5 (Z : CSp) (x1 : Int32) (x3 : Int32)  : ∀ (n : Nat) (x2 : Int32) (w : Wd), Wm (EC Z) MJ7_fill_53178_2 oVw w 5 [(0, Value.ref (aC Z 2)), (1, Value.int x1), (2, Value.int x2), (3, Value.int x3)] [] (f_J7_fill_53178_2_b5 x1 x3 n x2 w) := by
  intro n
  induction n with
  | zero =>
    intro x2 w
    exact r_none
  | succ n ih =>
    intro x2 w
    rw [f_J7_fill_53178_2_b5]
    refine r_iload_n dJ7_fill_53178_5 2 rfl ?_
    refine r_iload_n dJ7_fill_53178_6 3 rfl ?_
    refine r_icmp_ge (tgt := 20) dJ7_fill_53178_7 (by decide) (fun _ => ?_) (fun _ => ?_)
    · exact r_vret rfl dJ7_fill_53178_20
    · refine r_aload_n dJ7_fill_53178_10 0 rfl ?_
      refine r_iload_n dJ7_fill_53178_11 2 rfl ?_
      refine r_iload_n dJ7_fill_53178_12 1 rfl ?_
      refine r_iast (qC_2 Z w) rfl (uC_2 Z w x1) dJ7_fill_53178_13 (fun w2 => ?_)
      refine r_iinc (lv' := [(0, Value.ref (aC Z 2)), (1, Value.int x1), (2, Value.int (x2 + 1)), (3, Value.int x3)]) dJ7_fill_53178_14 2 rfl (by rfl) (Nat.le_of_ble_eq_true rfl) [1, 2, 0, 3] rfl ?_
      refine r_goto (tgt := 5) dJ7_fill_53178_17 (by decide) ?_
      exact ih (x2 + 1) w2
def f_J7_fill_53178_2 (x1 : Int32) (w : Wd) : Option (Wd) :=
  f_J7_fill_53178_2_b5 x1 (32 : Int32) FUEL (0 : Int32) w
set_option maxRecDepth 100000 in
set_option maxHeartbeats 4000000 in
theorem wk_J7_fill_53178_2 (Z : CSp) (w : Wd) (x1 : Int32)  : Wm (EC Z) MJ7_fill_53178_2 oVw w 0 [(0, Value.ref (aC Z 2)), (1, Value.int x1)] [] (f_J7_fill_53178_2 x1 w) := by
  unfold f_J7_fill_53178_2
  refine r_iconst (v := 0) dJ7_fill_53178_0 (by decide) ?_
  refine r_istore_n (lv' := [(0, Value.ref (aC Z 2)), (1, Value.int x1), (2, Value.int (0 : Int32))]) dJ7_fill_53178_1 (Nat.le_of_ble_eq_true rfl) [1, 2, 0] rfl ?_
  refine r_aload_n dJ7_fill_53178_2 0 rfl ?_
  refine r_alen (v := 32) (qC_2 Z w) rfl rfl dJ7_fill_53178_3 ?_
  refine r_istore_n (lv' := [(0, Value.ref (aC Z 2)), (1, Value.int x1), (2, Value.int (0 : Int32)), (3, Value.int (32 : Int32))]) dJ7_fill_53178_4 (Nat.le_of_ble_eq_true rfl) [1, 2, 3, 0] rfl ?_
  exact wk_J7_fill_53178_2_b5 Z x1 (32 : Int32) FUEL (0 : Int32) w
theorem m_J7_fill_53178_2 (Z : CSp) (w : Wd) (x1 : Int32) : MetM (EC Z) yJ7_fill_53178 cJ7_fill_53178 4 none { frames := 0, cells := 0, slots := 0, locals := 0 } oVw [Value.ref (aC Z 2), Value.int x1] w (f_J7_fill_53178_2 x1 w) := MetM_of (plainFor_of_name (by decide)) (Nat.le_of_ble_eq_true rfl) (wk_J7_fill_53178_2 Z w x1)
abbrev MJxe99ae_isNaN_b9ae7 : Mt := (cJxe99ae_isNaN_b9ae7, RJxe99ae, 2, some .boolean, { frames := 0, cells := 0, slots := 0, locals := 0 })
def f_Jxe99ae_isNaN_b9ae7_b11 (s0 : Int32) : Option (Int32) :=
  if zb s0 = true then some s0 else none
set_option maxRecDepth 100000 in
set_option maxHeartbeats 4000000 in
theorem wk_Jxe99ae_isNaN_b9ae7_b11 (Z : CSp) (w : Wd) (s0 : Int32)  : Wm (EM Z) MJxe99ae_isNaN_b9ae7 (oI w) w 11 [] [Value.int s0] (f_Jxe99ae_isNaN_b9ae7_b11 s0) := by
  unfold f_Jxe99ae_isNaN_b9ae7_b11
  exact r_zret rfl dJxe99ae_isNaN_b9ae7_11
def f_Jxe99ae_isNaN_b9ae7 (x0 : UInt64) : Option (Int32) :=
  if (dcl x0 x0) = 0 then (f_Jxe99ae_isNaN_b9ae7_b11 (0 : Int32)) else (f_Jxe99ae_isNaN_b9ae7_b11 (1 : Int32))
set_option maxRecDepth 100000 in
set_option maxHeartbeats 4000000 in
theorem wk_Jxe99ae_isNaN_b9ae7 (Z : CSp) (w : Wd) (x0 : UInt64)  : Wm (EM Z) MJxe99ae_isNaN_b9ae7 (oI w) w 0 [(0, Value.double x0)] [] (f_Jxe99ae_isNaN_b9ae7 x0) := by
  unfold f_Jxe99ae_isNaN_b9ae7
  refine r_dload_n dJxe99ae_isNaN_b9ae7_0 0 rfl ?_
  refine r_dload_n dJxe99ae_isNaN_b9ae7_1 0 rfl ?_
  refine r_dcmpl dJxe99ae_isNaN_b9ae7_2 ?_
  refine r_if_eq (tgt := 10) dJxe99ae_isNaN_b9ae7_3 (by decide) (fun _ => ?_) (fun _ => ?_)
  · refine r_iconst (v := 0) dJxe99ae_isNaN_b9ae7_10 (by decide) ?_
    refine r_lv [] rfl ?_
    exact wk_Jxe99ae_isNaN_b9ae7_b11 Z w (0 : Int32)
  · refine r_iconst (v := 1) dJxe99ae_isNaN_b9ae7_6 (by decide) ?_
    refine r_goto (tgt := 11) dJxe99ae_isNaN_b9ae7_7 (by decide) ?_
    refine r_lv [] rfl ?_
    exact wk_Jxe99ae_isNaN_b9ae7_b11 Z w (1 : Int32)
theorem m_Jxe99ae_isNaN_b9ae7 (Z : CSp) (w : Wd) (x0 : UInt64) : MetM (EM Z) yJxe99ae_isNaN_b9ae7 cJxe99ae_isNaN_b9ae7 2 (some .boolean) { frames := 0, cells := 0, slots := 0, locals := 0 } (oI w) [Value.double x0] w (f_Jxe99ae_isNaN_b9ae7 x0) := MetM_of (plainFor_of_name (by decide)) (Nat.le_of_ble_eq_true rfl) (wk_Jxe99ae_isNaN_b9ae7 Z w x0)
abbrev MJxe99ae_doubleToLongBits_ccdee : Mt := (cJxe99ae_doubleToLongBits_ccdee, RJxe99ae, 2, some .long, { frames := 1, cells := 0, slots := 0, locals := 23 })
def f_Jxe99ae_doubleToLongBits_ccdee (x0 : UInt64) : Option (Int64) :=
  (f_Jxe99ae_isNaN_b9ae7 x0).bind (fun v1 => if v1 = 0 then (some (x0).toInt64) else (some (9221120237041090560 : Int64)))
set_option maxRecDepth 100000 in
set_option maxHeartbeats 4000000 in
theorem wk_Jxe99ae_doubleToLongBits_ccdee (Z : CSp) (w : Wd) (x0 : UInt64)  : Wm (EM Z) MJxe99ae_doubleToLongBits_ccdee (oL w) w 0 [(0, Value.double x0)] [] (f_Jxe99ae_doubleToLongBits_ccdee x0) := by
  unfold f_Jxe99ae_doubleToLongBits_ccdee
  refine r_dload_n dJxe99ae_doubleToLongBits_ccdee_0 0 rfl ?_
  refine r_callS_I [Value.double x0] cfJxe99ae_isNaN_b9ae7 (m_Jxe99ae_isNaN_b9ae7 Z w x0) km_Jxe99ae_122 ⟨rfl, rfl, (Nat.le_of_ble_eq_true rfl), (Nat.le_of_ble_eq_true rfl)⟩ rfl rfl (Nat.le_of_ble_eq_true rfl) dJxe99ae_doubleToLongBits_ccdee_1 (fun v1 => ?_)
  refine r_if_ne (tgt := 12) dJxe99ae_doubleToLongBits_ccdee_4 (by decide) (fun _ => ?_) (fun _ => ?_)
  · refine r_ldc2 dJxe99ae_doubleToLongBits_ccdee_12 kk_Jxe99ae_137 ?_
    exact r_lret rfl dJxe99ae_doubleToLongBits_ccdee_15
  · refine r_dload_n dJxe99ae_doubleToLongBits_ccdee_7 0 rfl ?_
    refine r_d2raw km_Jxe99ae_134 ⟨(Nat.le_of_ble_eq_true rfl), (Nat.le_of_ble_eq_true rfl)⟩ dJxe99ae_doubleToLongBits_ccdee_8 ?_
    exact r_lret rfl dJxe99ae_doubleToLongBits_ccdee_11
theorem m_Jxe99ae_doubleToLongBits_ccdee (Z : CSp) (w : Wd) (x0 : UInt64) : MetM (EM Z) yJxe99ae_doubleToLongBits_ccdee cJxe99ae_doubleToLongBits_ccdee 2 (some .long) { frames := 1, cells := 0, slots := 0, locals := 23 } (oL w) [Value.double x0] w (f_Jxe99ae_doubleToLongBits_ccdee x0) := MetM_of (plainFor_of_name (by decide)) (Nat.le_of_ble_eq_true rfl) (wk_Jxe99ae_doubleToLongBits_ccdee Z w x0)
abbrev MJxf58ca_isNaN_12338 : Mt := (cJxf58ca_isNaN_12338, RJxf58ca, 1, some .boolean, { frames := 0, cells := 0, slots := 0, locals := 0 })
def f_Jxf58ca_isNaN_12338_b11 (s0 : Int32) : Option (Int32) :=
  if zb s0 = true then some s0 else none
set_option maxRecDepth 100000 in
set_option maxHeartbeats 4000000 in
theorem wk_Jxf58ca_isNaN_12338_b11 (Z : CSp) (w : Wd) (s0 : Int32)  : Wm (EM Z) MJxf58ca_isNaN_12338 (oI w) w 11 [] [Value.int s0] (f_Jxf58ca_isNaN_12338_b11 s0) := by
  unfold f_Jxf58ca_isNaN_12338_b11
  exact r_zret rfl dJxf58ca_isNaN_12338_11
def f_Jxf58ca_isNaN_12338 (x0 : UInt32) : Option (Int32) :=
  if (fcl x0 x0) = 0 then (f_Jxf58ca_isNaN_12338_b11 (0 : Int32)) else (f_Jxf58ca_isNaN_12338_b11 (1 : Int32))
set_option maxRecDepth 100000 in
set_option maxHeartbeats 4000000 in
theorem wk_Jxf58ca_isNaN_12338 (Z : CSp) (w : Wd) (x0 : UInt32)  : Wm (EM Z) MJxf58ca_isNaN_12338 (oI w) w 0 [(0, Value.float x0)] [] (f_Jxf58ca_isNaN_12338 x0) := by
  unfold f_Jxf58ca_isNaN_12338
  refine r_fload_n dJxf58ca_isNaN_12338_0 0 rfl ?_
  refine r_fload_n dJxf58ca_isNaN_12338_1 0 rfl ?_
  refine r_fcmpl dJxf58ca_isNaN_12338_2 ?_
  refine r_if_eq (tgt := 10) dJxf58ca_isNaN_12338_3 (by decide) (fun _ => ?_) (fun _ => ?_)
  · refine r_iconst (v := 0) dJxf58ca_isNaN_12338_10 (by decide) ?_
    refine r_lv [] rfl ?_
    exact wk_Jxf58ca_isNaN_12338_b11 Z w (0 : Int32)
  · refine r_iconst (v := 1) dJxf58ca_isNaN_12338_6 (by decide) ?_
    refine r_goto (tgt := 11) dJxf58ca_isNaN_12338_7 (by decide) ?_
    refine r_lv [] rfl ?_
    exact wk_Jxf58ca_isNaN_12338_b11 Z w (1 : Int32)
theorem m_Jxf58ca_isNaN_12338 (Z : CSp) (w : Wd) (x0 : UInt32) : MetM (EM Z) yJxf58ca_isNaN_12338 cJxf58ca_isNaN_12338 1 (some .boolean) { frames := 0, cells := 0, slots := 0, locals := 0 } (oI w) [Value.float x0] w (f_Jxf58ca_isNaN_12338 x0) := MetM_of (by decide +kernel) (Nat.le_of_ble_eq_true rfl) (wk_Jxf58ca_isNaN_12338 Z w x0)
abbrev MJxf58ca_floatToIntBits_5c35a : Mt := (cJxf58ca_floatToIntBits_5c35a, RJxf58ca, 1, some .int, { frames := 1, cells := 0, slots := 0, locals := 23 })
def f_Jxf58ca_floatToIntBits_5c35a (x0 : UInt32) : Option (Int32) :=
  (f_Jxf58ca_isNaN_12338 x0).bind (fun v1 => if v1 = 0 then (some (x0).toInt32) else (some (2143289344 : Int32)))
set_option maxRecDepth 100000 in
set_option maxHeartbeats 4000000 in
theorem wk_Jxf58ca_floatToIntBits_5c35a (Z : CSp) (w : Wd) (x0 : UInt32)  : Wm (EM Z) MJxf58ca_floatToIntBits_5c35a (oI w) w 0 [(0, Value.float x0)] [] (f_Jxf58ca_floatToIntBits_5c35a x0) := by
  unfold f_Jxf58ca_floatToIntBits_5c35a
  refine r_fload_n dJxf58ca_floatToIntBits_5c35a_0 0 rfl ?_
  refine r_callS_I [Value.float x0] cfJxf58ca_isNaN_12338 (m_Jxf58ca_isNaN_12338 Z w x0) km_Jxf58ca_59 ⟨rfl, rfl, (Nat.le_of_ble_eq_true rfl), (Nat.le_of_ble_eq_true rfl)⟩ rfl rfl (Nat.le_of_ble_eq_true rfl) dJxf58ca_floatToIntBits_5c35a_1 (fun v1 => ?_)
  refine r_if_ne (tgt := 12) dJxf58ca_floatToIntBits_5c35a_4 (by decide) (fun _ => ?_) (fun _ => ?_)
  · refine r_ldc dJxf58ca_floatToIntBits_5c35a_12 kk_Jxf58ca_77 ?_
    exact r_iret rfl dJxf58ca_floatToIntBits_5c35a_14
  · refine r_fload_n dJxf58ca_floatToIntBits_5c35a_7 0 rfl ?_
    refine r_f2raw km_Jxf58ca_74 ⟨(Nat.le_of_ble_eq_true rfl), (Nat.le_of_ble_eq_true rfl)⟩ dJxf58ca_floatToIntBits_5c35a_8 ?_
    exact r_iret rfl dJxf58ca_floatToIntBits_5c35a_11
theorem m_Jxf58ca_floatToIntBits_5c35a (Z : CSp) (w : Wd) (x0 : UInt32) : MetM (EM Z) yJxf58ca_floatToIntBits_5c35a cJxf58ca_floatToIntBits_5c35a 1 (some .int) { frames := 1, cells := 0, slots := 0, locals := 23 } (oI w) [Value.float x0] w (f_Jxf58ca_floatToIntBits_5c35a x0) := MetM_of (by decide +kernel) (Nat.le_of_ble_eq_true rfl) (wk_Jxf58ca_floatToIntBits_5c35a Z w x0)
