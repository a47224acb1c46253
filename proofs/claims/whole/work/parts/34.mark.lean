/-! THE CLASS: the mark of a cell, kept or reckoned -/
theorem neg_eq0 (x : Int32) : (-x = 0) ↔ x = 0 := by
  constructor
  · intro h
    have e := congrArg (fun z : Int32 => -z) h
    simp only [Int32.neg_neg] at e
    rw [e]; rfl
  · intro h
    rw [h]; rfl
theorem xy0 {x y : Int32} (hx : dif x) (hy : dif y) : (ab x + ab y = 0) ↔ (x = 0 ∧ y = 0) := by
  obtain ⟨a, ha, ea, ex⟩ := dif_ab hx
  obtain ⟨b, hb, eb, ey⟩ := dif_ab hy
  rw [ea, eb, nI_add, c_eq0 (by omega)]
  have h1 : (x = 0) ↔ a = 0 := by
    rcases ex with e | e
    · rw [e]; exact c_eq0 (by omega)
    · rw [e, neg_eq0]; exact c_eq0 (by omega)
  have h2 : (y = 0) ↔ b = 0 := by
    rcases ey with e | e
    · rw [e]; exact c_eq0 (by omega)
    · rw [e, neg_eq0]; exact c_eq0 (by omega)
  rw [h1, h2]
  omega
theorem rs_ne {r : Row} (hv : VR r) {c k : Nat} (hk : k < 3) : ¬ rsS r c k = -10001 := fun q => by
  have h1 := rs_lt hv (c := c) hk
  have h2 := VR_w hv hk
  rw [q] at h1
  have e : (-10001 : Int32).toInt = -10001 := by decide
  omega
/-- what a reading of marks leaves as it was -/
def FrQ (c : Nat) (w v : Wd) : Prop := (∀ a, (a = 0 ∨ 6 ≤ a) → v.1 a = w.1 a) ∧ v.2 = w.2 ∧ (∀ k, k ≠ c → v.1 2 k = w.1 2 k ∧ v.1 3 k = w.1 3 k ∧ v.1 4 k = w.1 4 k)
theorem FrQ.rf (c : Nat) (w : Wd) : FrQ c w w := ⟨fun _ _ => rfl, rfl, fun _ _ => ⟨rfl, rfl, rfl⟩⟩
theorem FrQ.tr {c : Nat} {w v u : Wd} (h1 : FrQ c w v) (h2 : FrQ c v u) : FrQ c w u := ⟨fun a q => (h2.1 a q).trans (h1.1 a q), h2.2.1.trans h1.2.1, fun k q => ⟨(h2.2.2 k q).1.trans (h1.2.2 k q).1, (h2.2.2 k q).2.1.trans (h1.2.2 k q).2.1, (h2.2.2 k q).2.2.trans (h1.2.2 k q).2.2⟩⟩
theorem FrQ_RC {c : Nat} {w v : Wd} (h : FrQ c w v) : RC v 10 = RC w 10 := by
  funext k
  unfold RC
  rw [h.1 10 (by omega), h.1 (10 + 1) (by omega), h.1 (10 + 2) (by omega), h.1 (10 + 3) (by omega)]
theorem FrQ.s5 {c : Nat} {w v : Wd} (h : FrQ c w v) (k : Nat) (x : Int32) : FrQ c w (wset v 5 k x) := ⟨fun a q => by rw [ws_c _ _ (by omega)]; exact h.1 a q, h.2.1, fun j q => by rw [ws_c _ _ (by decide), ws_c _ _ (by decide), ws_c _ _ (by decide)]; exact h.2.2 j q⟩
theorem FrQ.s1 {c : Nat} {w v : Wd} (h : FrQ c w v) (k : Nat) (x : Int32) : FrQ c w (wset v 1 k x) := ⟨fun a q => by rw [ws_c _ _ (by omega)]; exact h.1 a q, h.2.1, fun j q => by rw [ws_c _ _ (by decide), ws_c _ _ (by decide), ws_c _ _ (by decide)]; exact h.2.2 j q⟩
theorem FrQ.s3 {c : Nat} {w v : Wd} (h : FrQ c w v) (x : Int32) : FrQ c w (wset v 3 c x) := ⟨fun a q => by rw [ws_c _ _ (by omega)]; exact h.1 a q, h.2.1, fun j q => by rw [ws_c _ _ (by decide), ws_k _ _ (fun z => q z.2), ws_c _ _ (by decide)]; exact h.2.2 j q⟩
theorem FrQ.s4 {c : Nat} {w v : Wd} (h : FrQ c w v) (x : Int32) : FrQ c w (wset v 4 c x) := ⟨fun a q => by rw [ws_c _ _ (by omega)]; exact h.1 a q, h.2.1, fun j q => by rw [ws_c _ _ (by decide), ws_c _ _ (by decide), ws_k _ _ (fun z => q z.2)]; exact h.2.2 j q⟩
theorem FrQ.s2 {c : Nat} {w v : Wd} (h : FrQ c w v) (x : Int32) : FrQ c w (wset v 2 c x) := ⟨fun a q => by rw [ws_c _ _ (by omega)]; exact h.1 a q, h.2.1, fun j q => by rw [ws_k _ _ (fun z => q z.2), ws_c _ _ (by decide), ws_c _ _ (by decide)]; exact h.2.2 j q⟩
theorem FrQ.S {c : Nat} {w v : Wd} (h : FrQ c w v) (o : Option Tup) : FrQ c w (wS v o) := by
  cases o with
  | none => exact h.s1 _ _
  | some t => exact ((h.s1 _ _).s1 _ _).s1 _ _
theorem RC_wset5 (w : Wd) (k : Nat) (x : Int32) : RC (wset w 5 k x) 10 = RC w 10 := FrQ_RC (c := 0) ((FrQ.rf 0 w).s5 k x)
theorem c_reck1 {w : Wd} {c k : Nat} (hv : VR (RC w 10)) (hc : c < 32) (hk : k < 3) (n : Nat) : f_X2_reckon_b24 (nI c) (n + 1) (nI k) w = if dk1 (RC w 10) c k then some (2, wset w 5 k (if sS (RC w 10) (pos c + 4 * k) = 0 then -10001 else rsS (RC w 10) c k)) else f_X2_reckon_b24 (nI c) n (nI (k + 1)) (wset w 5 k (rsS (RC w 10) c k)) := by
  obtain ⟨h1, h2, h3⟩ := VR_w hv hk
  have hx := xy0 (dif_X hv hc hk) (dif_Y hv hc hk)
  conv => lhs; rw [f_X2_reckon_b24]
  rw [if_neg (fun q => by have := (c_lle (by omega) (by omega)).mp q; omega), c_X hc hk, bind_s, c_Y hc hk, bind_s, if_pos (i_n (by omega) (by omega)), n_cl (by omega), RC_w10 hk,
    c_Res (by rw [h1]; exact (c_lle (by omega) (by omega)).mpr (by omega)), bind_s, if_pos (i_n (by omega) (by omega)), wput_eq, if_pos (i_n (by omega) (by omega)), ws_same, c_Strxy, bind_s, if_pos (i_l (by omega) (by omega)), n_cll (by omega)]
  unfold f_X2_reckon_b103
  have e6 : (wset w 5 k (if sX (RC w 10) (pos c + 4 * k) = 0 ∧ sY (RC w 10) (pos c + 4 * k) = 0 then -10001 else sRes (sX (RC w 10) (pos c + 4 * k)) (sY (RC w 10) (pos c + 4 * k)) (RC w 10 (2 + k)))).1 12 1 = RC w 10 6 := by rw [ws_c _ _ (by decide)]; exact RC_s10 (k := 1) (by omega)
  rw [e6, a_al]
  have es : FP.fdiv (FP.i2f (ab (sX (RC w 10) (pos c + 4 * k)) + ab (sY (RC w 10) (pos c + 4 * k)))) FP.fconst2 = sStr (RC w 10) (pos c + 4 * k) := rfl
  have er : sRes (sX (RC w 10) (pos c + 4 * k)) (sY (RC w 10) (pos c + 4 * k)) (RC w 10 (2 + k)) = rsS (RC w 10) c k := rfl
  rw [es, er]
  unfold dk1
  by_cases h0 : sS (RC w 10) (pos c + 4 * k) = 0
  · have hxy := hx.mp h0
    rw [if_pos hxy, if_pos rfl, if_pos (by simp [h0]), if_pos h0]
  · have hxy : ¬ (sX (RC w 10) (pos c + 4 * k) = 0 ∧ sY (RC w 10) (pos c + 4 * k) = 0) := fun q => h0 (hx.mpr q)
    rw [if_neg hxy, if_neg (rs_ne hv hk), if_neg h0]
    by_cases hl : 0 ≤ fcg (sStr (RC w 10) (pos c + 4 * k)) (FP.i2f (RC w 10 6))
    · rw [if_pos hl, if_neg (by simp [h0, hl])]
    · rw [if_neg hl, if_pos (by simp [hl])]
/-- what is kept of a cell, when it is kept -/
def ckS (r : Row) (w : Wd) (c : Nat) : Prop := w.1 2 c = nI (lkS r c).1 ∧ ((lkS r c).1 = 0 → w.1 3 c = enc (lkS r c).2.1) ∧ ((lkS r c).1 = 4 → w.1 3 c = enc (lkS r c).2.2.1 ∧ w.1 4 c = enc (lkS r c).2.2.2)
def CK (w : Wd) : Prop := ∀ c, c < 32 → (w.1 2 c = -1 ∨ ckS (RC w 10) w c)
theorem Kx_m1 : ∀ k, k < 3 → Kx (-1) k = Kall k := by decide
theorem Kx_n : ∀ j, j < 3 → ∀ k, k < 3 → Kx (nI j) k = Kno j k := by decide
theorem omin_perm (a b c : Option Nat) : omin (omin (omin none a) b) c = omin (omin c b) a := by
  cases a <;> cases b <;> cases c <;> simp only [omin, Option.some.injEq] <;> (repeat' split) <;> omega
theorem omax_perm (a b c : Option Nat) : omax (omax (omax none a) b) c = omax (omax c b) a := by
  cases a <;> cases b <;> cases c <;> simp only [omax, Option.some.injEq] <;> (repeat' split) <;> omega
theorem c_pair1 {w : Wd} {c j : Nat} (hv : VR (RC w 10)) (hres : resC w c) (hj : j < 3) {a b : Option Nat} (la : ∀ n, a = some n → n < 2 ^ 31) (lb : ∀ n, b = some n → n < 2 ^ 31) (n : Nat) :
    ∃ o : Option Tup, f_X2_reckonPairs_b11 (nI c) (n + 1) (enc a) (enc b) (nI j) w = f_X2_reckonPairs_b11 (nI c) n (enc (omin a (bstS (RC w 10) c (Kno j)))) (enc (omax b (bstS (RC w 10) c (Kno j)))) (nI (j + 1)) (wS w o) := by
  obtain ⟨o, e, -, hB, hb⟩ := c_search (x1 := nI j) hv hres
  have hB := hB (fun q => by have := congrArg Int32.toInt q; rw [toI_n (by omega)] at this; have e1 : (-1 : Int32).toInt = -1 := by decide
                             omega)
  rw [scS_congr (Kx_n j hj)] at hB
  refine ⟨o, ?_⟩
  conv => lhs; rw [f_X2_reckonPairs_b11]
  rw [if_neg (fun q => by have := (c_lle (by omega) (by omega)).mp q; omega), e, bind_s]
  unfold f_X2_reckonPairs_b48 f_X2_reckonPairs_b58
  simp only [a_al, jlet_eq]
  have hB' : bstS (RC w 10) c (Kno j) = o.map (fun t => t.1) := hB.symm
  rw [hB']
  cases o with
  | none =>
    rw [if_pos (show fnd none = 0 from rfl)]
    cases a <;> cases b <;> rfl
  | some t =>
    obtain ⟨x, m, f, l⟩ := t
    have hx := hb x m f l rfl
    rw [if_neg (show ¬ fnd (some (x, m, f, l)) = 0 from (by decide : ¬ (1 : Int32) = 0))]
    have h7 : (wS w (some (x, m, f, l))).1 1 7 = nI x := by unfold wS; simp only; rw [ws_same]
    rw [h7]
    have hbb : (if enc b < nI x then nI x else enc b) = enc (omax b (some x)) := by
      cases b with
      | none =>
        rw [if_pos]
        · rfl
        · rw [Int32.lt_iff_toInt_lt, toI_n (by omega)]
          have e1 : (enc none).toInt = -10001 := by decide
          omega
      | some y =>
        have := lb y rfl
        show (if nI y < nI x then nI x else nI y) = nI (if y < x then x else y)
        by_cases q : y < x
        · rw [if_pos q, if_pos ((c_lt (by omega) (by omega)).mpr q)]
        · rw [if_neg q, if_neg (fun z => q ((c_lt (by omega) (by omega)).mp z))]
    rw [hbb]
    cases a with
    | none => rw [if_pos (show enc none = -10001 from rfl)]; rfl
    | some y =>
      have := la y rfl
      rw [if_neg (show ¬ enc (some y) = -10001 from enc_none this)]
      show f_X2_reckonPairs_b11 (nI c) n (if nI x < nI y then nI x else nI y) _ _ _ = f_X2_reckonPairs_b11 (nI c) n (nI (if x < y then x else y)) _ _ _
      by_cases q : x < y
      · rw [if_pos q, if_pos ((c_lt (by omega) (by omega)).mpr q)]
        rfl
      · rw [if_neg q, if_neg (fun z => q ((c_lt (by omega) (by omega)).mp z))]
        rfl
