/-! THE ECHO: both sides -/
def ebt (s : Nat) (u : UInt32) : Int32 := FP.f2i (FP.fmul (FP.i2f (nI s)) u)
def exy (s : Nat) (t : UInt32) : Int32 × Int32 :=
  if 0 ≤ fcg t FP.fconst1 then (if 0 ≤ fcg t FP.fconst2 then (if 0 ≤ fcg t (1077936128 : UInt32) then (ebt s (FP.fsub t 1077936128), ebt s (FP.fsub t 1077936128) - nI s) else (ebt s (FP.fsub t FP.fconst2) - nI s, -(ebt s (FP.fsub t FP.fconst2)))) else (-(ebt s (FP.fsub t FP.fconst1)), nI s - ebt s (FP.fsub t FP.fconst1))) else (nI s - ebt s t, ebt s t)
def sml (x : Int32) : Prop := ∃ n : Nat, n ≤ 1000 ∧ (x = nI n ∨ x = -nI n)
theorem sml_p {n : Nat} (h : n ≤ 1000) : sml (nI n) := ⟨n, h, .inl rfl⟩
theorem sml_n {n : Nat} (h : n ≤ 1000) : sml (-nI n) := ⟨n, h, .inr rfl⟩
theorem sub_neg' {a b : Nat} (h : a ≤ b) : nI a - nI b = -nI (b - a) := by
  rw [← pk_sub h]
  simp [Int32.neg_sub]
theorem zv_32 : zv 1077936128 = zv FP.fconst2 + zv FP.fconst1 := by decide +kernel
theorem mag_c1 : FP.fconst1.toNat % 2 ^ 31 < 130 * 2 ^ 23 := by decide
theorem mag_c2 : FP.fconst2.toNat % 2 ^ 31 < 130 * 2 ^ 23 := by decide
theorem mag_c3 : (1077936128 : UInt32).toNat % 2 ^ 31 < 130 * 2 ^ 23 := by decide
theorem sub_bd {t v : UInt32} (ht : FP.Core.FFin t) (hm : t.toNat % 2 ^ 31 ≤ 129 * 2 ^ 23) (hv : FP.Core.FFin v) (hmv : v.toNat % 2 ^ 31 < 130 * 2 ^ 23) (h1 : zv v ≤ zv t) (h2 : zv t ≤ zv v + zv FP.fconst1) : nn32 (FP.fsub t v) = true ∧ FP.Core.FFin (FP.fsub t v) ∧ 0 ≤ zv (FP.fsub t v) ∧ zv (FP.fsub t v) ≤ zv FP.fconst1 := by
  have hf : FP.Core.FFin (FP.fsub t v) := FP.Core.fin_of_lt32 (FP.Core.fsub_mag (K := 130) (by omega) hmv (by decide)) (by decide)
  have := zv_sub (L := FP.fconst0) (U := FP.fconst1) ht hv (fin_n fin_0) (fin_n fin_1) (by rw [zv_0]; omega) (by omega)
  rw [zv_0] at this
  exact ⟨nn_of hf.notNaN, hf, this.1, this.2⟩
theorem exy_c {t : UInt32} (ht : FP.Core.FFin t) (hm : t.toNat % 2 ^ 31 ≤ 129 * 2 ^ 23) (h0 : 0 ≤ zv t) (h4 : zv t ≤ zv 1082130432) {s : Nat} (hs : s ≤ 1000) :
    sml (exy s t).1 ∧ sml (exy s t).2 ∧ f_X6_echoParts (nI s) t = some (((4096 * ((exy s t).1 + 1024)) + (exy s t).2) + 1024) ∧
    (∀ (a : Int32) (w : Wd), (if 0 ≤ (fcg t FP.fconst1) then (if 0 ≤ (fcg t FP.fconst2) then (if 0 ≤ (fcg t (1077936128 : UInt32)) then (if nn32 (FP.fsub t (1077936128 : UInt32)) = true then (if nn32 (FP.fmul (FP.i2f (nI s)) (FP.fsub t (1077936128 : UInt32))) = true then (jlet (FP.f2i (FP.fmul (FP.i2f (nI s)) (FP.fsub t (1077936128 : UInt32)))) (fun y3 => (f_X4_addSignal a y3 (y3 - nI s) w).bind (fun w4 => f_X4_layEchoOfRate_b141 w4))) else none) else none) else (if nn32 (FP.fsub t FP.fconst2) = true then (if nn32 (FP.fmul (FP.i2f (nI s)) (FP.fsub t FP.fconst2)) = true then (jlet (FP.f2i (FP.fmul (FP.i2f (nI s)) (FP.fsub t FP.fconst2))) (fun y5 => (f_X4_addSignal a (y5 - nI s) (-y5) w).bind (fun w6 => f_X4_layEchoOfRate_b141 w6))) else none) else none)) else (if nn32 (FP.fsub t FP.fconst1) = true then (if nn32 (FP.fmul (FP.i2f (nI s)) (FP.fsub t FP.fconst1)) = true then (jlet (FP.f2i (FP.fmul (FP.i2f (nI s)) (FP.fsub t FP.fconst1))) (fun y7 => (f_X4_addSignal a (-y7) (nI s - y7) w).bind (fun w8 => f_X4_layEchoOfRate_b141 w8))) else none) else none)) else (if nn32 (FP.fmul (FP.i2f (nI s)) t) = true then (jlet (FP.f2i (FP.fmul (FP.i2f (nI s)) t)) (fun y9 => (f_X4_addSignal a (nI s - y9) y9 w).bind (fun w10 => f_X4_layEchoOfRate_b141 w10))) else none)) = f_X4_addSignal a (exy s t).1 (exy s t).2 w) := by
  have z1 := zv_1
  have e2 := zv_2v
  have e3 := zv_32
  have e4 := zv_43
  have nt := fin_n ht
  have bo : ∀ o : Option Wd, (o.bind (fun w => f_X4_layEchoOfRate_b141 w)) = o := fun o => by cases o <;> rfl
  unfold f_X6_echoParts f_X6_echoParts_b97 exy
  by_cases c1 : 0 ≤ fcg t FP.fconst1
  · have d1 := (fcg_0 nt (fin_n fin_1)).mp c1
    simp only [if_pos c1]
    by_cases c2 : 0 ≤ fcg t FP.fconst2
    · have d2 := (fcg_0 nt (fin_n fin_2)).mp c2
      simp only [if_pos c2]
      by_cases c3 : 0 ≤ fcg t 1077936128
      · have d3 := (fcg_0 nt (fin_n fin_3)).mp c3
        simp only [if_pos c3]
        obtain ⟨n1, f1, g1, g2⟩ := sub_bd ht hm fin_3 mag_c3 d3 (by omega)
        obtain ⟨n2, b, hb, eb⟩ := echo_b f1 g1 g2 hs
        simp only [n1, n2, if_true, jlet_eq, bo, ebt, eb]
        exact ⟨sml_p (by omega), by rw [sub_neg' hb]; exact sml_n (by omega), trivial, fun _ _ => trivial⟩
      · have d3 : ¬ zv 1077936128 ≤ zv t := fun q => c3 ((fcg_0 nt (fin_n fin_3)).mpr q)
        simp only [if_neg c3]
        obtain ⟨n1, f1, g1, g2⟩ := sub_bd ht hm fin_2 mag_c2 d2 (by omega)
        obtain ⟨n2, b, hb, eb⟩ := echo_b f1 g1 g2 hs
        simp only [n1, n2, if_true, jlet_eq, bo, ebt, eb]
        exact ⟨by rw [sub_neg' hb]; exact sml_n (by omega), sml_n (by omega), trivial, fun _ _ => trivial⟩
    · have d2 : ¬ zv FP.fconst2 ≤ zv t := fun q => c2 ((fcg_0 nt (fin_n fin_2)).mpr q)
      simp only [if_neg c2]
      obtain ⟨n1, f1, g1, g2⟩ := sub_bd ht hm fin_1 mag_c1 d1 (by omega)
      obtain ⟨n2, b, hb, eb⟩ := echo_b f1 g1 g2 hs
      simp only [n1, n2, if_true, jlet_eq, bo, ebt, eb]
      exact ⟨sml_n (by omega), by rw [pk_sub hb]; exact sml_p (by omega), trivial, fun _ _ => trivial⟩
  · have d1 : ¬ zv FP.fconst1 ≤ zv t := fun q => c1 ((fcg_0 nt (fin_n fin_1)).mpr q)
    simp only [if_neg c1]
    obtain ⟨n2, b, hb, eb⟩ := echo_b ht h0 (by omega) hs
    simp only [n2, if_true, jlet_eq, bo, ebt, eb]
    exact ⟨by rw [pk_sub hb]; exact sml_p (by omega), sml_p (by omega), trivial, fun _ _ => trivial⟩
theorem sml_d {x : Int32} (h : sml x) : ∃ X : Nat, 24 ≤ X ∧ X ≤ 2024 ∧ x + 1024 = nI X := by
  obtain ⟨n, hn, rfl | rfl⟩ := h
  · exact ⟨n + 1024, by omega, by omega, a_al n 1024⟩
  · refine ⟨1024 - n, by omega, by omega, ?_⟩
    rw [← pk_sub (show n ≤ 1024 by omega), Int32.add_comm, Int32.sub_eq_add_neg]
    rfl
theorem sml_back {x : Int32} {X : Nat} (h : x + 1024 = nI X) : nI X - 1024 = x := by rw [← h, Int32.add_sub_cancel]
theorem unpack {x y : Int32} (hx : sml x) (hy : sml y) : ((((4096 * (x + 1024)) + y) + 1024) / 4096) - 1024 = x ∧ (jrem (((4096 * (x + 1024)) + y) + 1024) 4096) - 1024 = y := by
  obtain ⟨X, hX1, hX2, eX⟩ := sml_d hx
  obtain ⟨Y, hY1, hY2, eY⟩ := sml_d hy
  have e : ((4096 * (x + 1024)) + y) + 1024 = nI (4096 * X + Y) := by
    rw [Int32.add_assoc, eX, eY, a_lm, nI_add]
  rw [e]
  refine ⟨?_, ?_⟩
  · rw [show (4096 : Int32) = nI 4096 from rfl, pk_div (by omega) (by omega) (by omega), show (4096 * X + Y) / 4096 = X by omega]
    exact sml_back eX
  · unfold jrem
    rw [show (4096 : Int32) = nI 4096 from rfl, pk_rem (by omega) (by omega) (by omega), show (4096 * X + Y) % 4096 = Y by omega]
    exact sml_back eY
theorem ab_n {x : Int32} (h : x ≤ 0) : ab x = -x := by
  unfold ab
  by_cases h2 : 0 ≤ x
  · have := Int32.le_antisymm h h2
    subst this
    rfl
  · rw [if_neg h2]
theorem ab_p {x : Int32} (h : ¬ x ≤ 0) : ab x = x := by
  unfold ab
  rw [if_pos (Int32.le_of_lt (Int32.not_le.mp h))]
theorem sml_ab {x : Int32} (h : sml x) : ∃ n : Nat, n ≤ 1000 ∧ ab x = nI n := by
  obtain ⟨n, hn, rfl | rfl⟩ := h
  · refine ⟨n, hn, ?_⟩
    unfold ab
    rw [if_pos (nI_pos' (by omega))]
  · refine ⟨n, hn, ?_⟩
    by_cases h0 : n = 0
    · subst h0; rfl
    · have hlt : ¬ (0 : Int32) ≤ -nI n := by
        have := pk_sneg (a := 0) (b := n) (by omega) (by omega)
        rw [show nI 0 - nI n = -nI n from by rw [show nI 0 = (0 : Int32) from rfl]; simp] at this
        exact Int32.not_le.mpr this
      unfold ab
      rw [if_neg hlt, Int32.neg_neg]
/-- what a signal adds, over the row -/
def sigP (x : Int32) (p i : Nat) : Nat := if x ≤ 0 then p + i + 2 else p + i
def sigR (r : Row) (p : Nat) (x y : Int32) : Row := rset (rset r (sigP x p 0) (brt (ab x) (r (sigP x p 0)))) (sigP y p 1) (brt (ab y) (rset r (sigP x p 0) (brt (ab x) (r (sigP x p 0))) (sigP y p 1)))
theorem c_sig {w : Wd} {k : Nat} {x y : Int32} (hk : k + 3 < 384) : ∃ w' : Wd, f_X4_addSignal (nI k) x y w = some w' ∧ PutC w w' ∧ RC w' 10 = sigR (RC w 10) (11 + k) x y := by
  unfold f_X4_addSignal f_X4_addSignal_b12 f_X4_addSignal_b33
  have key : ∀ (i j : Nat), i < 384 → j < 384 → ∃ w' : Wd, ((f_X4_brighten (nI i) (if 0 ≤ x then x else 0 - x) w).bind (fun w2 => (f_X4_brighten (nI j) (if 0 ≤ y then y else 0 - y) w2).bind (fun w2 => some w2))) = some w' ∧ PutC w w' ∧ RC w' 10 = rset (rset (RC w 10) (11 + i) (brt (ab x) (RC w 10 (11 + i)))) (11 + j) (brt (ab y) (rset (RC w 10) (11 + i) (brt (ab x) (RC w 10 (11 + i))) (11 + j))) := fun i j hi hj => by
    rw [abz, abz, c_bright hi, bind_s, c_bright hj, bind_s]
    refine ⟨_, rfl, ((PutC.rf w).s _ _ (by omega)).s _ _ (by omega), ?_⟩
    rw [RC_sm _ hj, RC_sm _ hi]
  unfold sigR sigP
  by_cases hx : x ≤ 0
  · by_cases hy : y ≤ 0
    · simp only [if_pos hx, if_pos hy, a_al]
      obtain ⟨w', a, b, c⟩ := key (k + 2) (k + 3) (by omega) (by omega)
      exact ⟨w', a, b, by rw [c]; rfl⟩
    · simp only [if_pos hx, if_neg hy, a_al]
      obtain ⟨w', a, b, c⟩ := key (k + 2) (k + 1) (by omega) (by omega)
      exact ⟨w', a, b, by rw [c]; rfl⟩
  · by_cases hy : y ≤ 0
    · simp only [if_neg hx, if_pos hy, a_al]
      obtain ⟨w', a, b, c⟩ := key k (k + 3) (by omega) (by omega)
      exact ⟨w', a, b, by rw [c]; rfl⟩
    · simp only [if_neg hx, if_neg hy, a_al]
      obtain ⟨w', a, b, c⟩ := key k (k + 1) (by omega) (by omega)
      exact ⟨w', a, b, by rw [c]; rfl⟩
theorem VR_sig {r : Row} (hv : VR r) {p : Nat} {x y : Int32} (hp : 11 ≤ p) (hp2 : p + 3 < 395) (hx : sml x) (hy : sml y) : VR (sigR r p x y) := by
  obtain ⟨n, hn, en⟩ := sml_ab hx
  obtain ⟨m, hm, em⟩ := sml_ab hy
  have hpx : 11 ≤ sigP x p 0 ∧ sigP x p 0 < 395 := by unfold sigP; split <;> omega
  have hpy : 11 ≤ sigP y p 1 ∧ sigP y p 1 < 395 := by unfold sigP; split <;> omega
  have hr : ∀ {r : Row}, VR r → ∀ k, 11 ≤ k → k < 395 → rg (r k) 0 4095 := fun hv k h1 h2 => by
    have := hv.2.2.2.2.2.2.2.2.2 (k - 11) (by omega)
    rw [show 11 + (k - 11) = k by omega] at this
    exact this
  unfold sigR
  rw [en, em]
  have v1 := VR_sm hv (k := sigP x p 0) hpx.1 (brt_rg (m := n) (by omega) (hr hv _ hpx.1 hpx.2))
  exact VR_sm v1 hpy.1 (brt_rg (by omega) (hr v1 _ hpy.1 hpy.2))
def stE (d s c : Nat) (j : Nat) (r : Row) : Row := sigR r (pos c + 4 * j) (exy s (echT (d % tn (r (2 + j))) (tn (r (2 + j))))).1 (exy s (echT (d % tn (r (2 + j))) (tn (r (2 + j))))).2
theorem VR_stE {r : Row} (hv : VR r) {d s c j : Nat} (hs : s ≤ 1000) (hc : c < 32) (hj : j < 3) : VR (stE d s c j r) := by
  have hw := VR_w hv hj
  obtain ⟨b1, b2, b3, b4⟩ := echT_bd (r := d % tn (r (2 + j))) (wv := tn (r (2 + j))) (Nat.mod_lt _ (by omega)) (by omega)
  obtain ⟨x1, x2, -⟩ := exy_c b1 b4 b2 b3 hs
  exact VR_sig hv (by unfold pos; omega) (by unfold pos; omega) x1 x2
theorem VR_ech {r : Row} (hv : VR r) {d s c : Nat} (hs : s ≤ 1000) (hc : c < 32) : ∀ j, j ≤ 3 → VR (foldN (stE d s c) j 0 r)
  | 0, _ => hv
  | j + 1, h => by
    rw [foldN_succ, Nat.zero_add]
    exact VR_stE (VR_ech hv hs hc j (by omega)) hs hc (by omega)
theorem m_full {v : Wd} {c : Nat} (hv : VR (RM v)) (hc : c < 32) : f_X6_fullOnes (nI (pos c)) v = some (nI (cntS (RM v) c 4095)) := by
  unfold f_X6_fullOnes
  have hpb : ∀ j, j < 12 → pos c + j < 395 := fun j hj => by unfold pos; omega
  obtain ⟨n', b1, b2⟩ := loopG (fun n (s : Nat) i => f_X6_fullOnes_b4 (nI (pos c)) v n (nI s) i) (fun s => some (nI s)) 12 (fun j s => s = cnt12 (fun i => decide (RM v (pos c + i) = 4095)) j) (by omega)
    (fun m' s hI => by
      show f_X6_fullOnes_b4 (nI (pos c)) v (m' + 1) (nI s) (nI 12) = _
      rw [f_X6_fullOnes_b4, if_pos (by decide)])
    (fun m' j s hj hI => by
      refine ⟨s + (if decide (RM v (pos c + j) = 4095) = true then 1 else 0), by rw [cnt_s, hI], ?_⟩
      show f_X6_fullOnes_b4 (nI (pos c)) v (m' + 1) (nI s) (nI j) = f_X6_fullOnes_b4 (nI (pos c)) v m' (nI _) (nI (j + 1))
      have hb := hpb j hj
      rw [f_X6_fullOnes_b4, if_neg (fun q => by have := (c_lle (by decide) (by omega)).mp q; omega), nI_add, if_pos (i_n hb (by omega)), n_cl (by omega), RM_at hb]
      unfold f_X6_fullOnes_b30
      simp only [jlet_eq, a_al, decide_eq_true_eq]
      by_cases q : RM v (pos c + j) = 4095
      · rw [if_pos q, if_pos q]
      · rw [if_neg q, if_neg q]) 0 rfl
  have hcount : cntS (RM v) c 4095 = cnt12 (fun i => decide (RM v (pos c + i) = 4095)) 12 := by
    refine cntS_g (fun i hi => ?_)
    obtain ⟨a, -, ha, ea⟩ := VR_m hv hc (j := i) hi
    rw [ea, decide_eq_true_eq, c_eql (by decide) (by omega), c_ltl (by decide) (by omega)]
    show a = 4095 ↔ ¬ a < 4095
    omega
  rw [hcount, ← b2]
  exact b1
theorem c_echo1 {w : Wd} (hv : VR (RC w 10)) {c d s j : Nat} (hc : c < 32) (hd : d ≤ 9999) (hs : s ≤ 1000) (hj : j < 3) : ∃ w' : Wd, f_X4_layEchoOfRate (nI (c * 12 + j * 4)) (nI d) (nI s) (RC w 10 (2 + j)) w = some w' ∧ PutC w w' ∧ RC w' 10 = stE d s c j (RC w 10) := by
  have hw := VR_w hv hj
  obtain ⟨b1, b2, b3, b4⟩ := echT_bd (r := d % tn (RC w 10 (2 + j))) (wv := tn (RC w 10 (2 + j))) (Nat.mod_lt _ (by omega)) (by omega)
  obtain ⟨x1, x2, x3, x4⟩ := exy_c b1 b4 b2 b3 hs
  obtain ⟨w', a1, a2, a3⟩ := c_sig (w := w) (k := c * 12 + j * 4) (x := (exy s (echT (d % tn (RC w 10 (2 + j))) (tn (RC w 10 (2 + j))))).1) (y := (exy s (echT (d % tn (RC w 10 (2 + j))) (tn (RC w 10 (2 + j))))).2) (by omega)
  refine ⟨w', ?_, a2, ?_⟩
  · rw [← a1, ← x4]
    unfold f_X4_layEchoOfRate
    have ejr : jrem (nI d) (RC w 10 (2 + j)) = nI (d % tn (RC w 10 (2 + j))) := by
      unfold jrem
      conv => lhs; rw [hw.1]
      rw [pk_rem (by omega) (by omega) (by omega)]
    have hw0 : ¬ RC w 10 (2 + j) = 0 := by rw [hw.1]; exact fun q => by have := (c_eq0 (by omega)).mp q; omega
    have hw1 : (1 : Int32) ≤ RC w 10 (2 + j) := by rw [hw.1]; exact (c_lle (by omega) (by omega)).mpr (by omega)
    have eT1 : FP.fdiv (FP.fmul (1082130432 : UInt32) (FP.i2f (nI (d % tn (RC w 10 (2 + j)))))) (FP.i2f (RC w 10 (2 + j))) = echT (d % tn (RC w 10 (2 + j))) (tn (RC w 10 (2 + j))) := by
      unfold echT
      rw [← hw.1]
    rw [if_pos hw1, if_pos hw0, jlet_eq, ejr, eT1, jlet_eq, if_pos (nn_of (FP.Core.fmul_out fin_4 (fin_i _))), if_pos (nn_of b1.notNaN)]
  · rw [a3, show 11 + (c * 12 + j * 4) = pos c + 4 * j by unfold pos; omega]
    rfl
theorem u_echo {w v : Wd} (hr : RC w 10 = RM v) (hv : VR (RM v)) (e x y p z q : Int32) (hp : f_X4_place e x y w = some p) : Up w v (f_X4_layEcho p z q w) (f_X6_putEcho e x y z q v) := by
  unfold f_X4_layEcho f_X6_putEcho f_X4_layEcho_b29 f_X6_putEcho_b34
  rcases cell_u hr hv e x y with ⟨c, ec, hok, hp', hc, e1, e2⟩ | ⟨e1, hp', hok⟩
  · obtain rfl : p = nI c := Option.some.inj (hp.symm.trans hp')
    rw [c_isCell hc, e1, bind_s, bind_s, if_neg one0, if_neg one0]
    rcases rng_c z 9999 (by decide) with ⟨d, hd, rfl, e6, e7⟩ | ⟨e6, e7⟩
    · have hd' : d ≤ 9999 := hd
      rw [e6, e7, bind_s, bind_s, if_neg one0, if_neg one0]
      rcases rng_d q 1 1000 (by decide) (by decide) with ⟨s, hs1, hs2, rfl, e8, e9⟩ | ⟨e8, e9⟩
      · have hs : s ≤ 1000 := hs2
        rw [e8, e9, bind_s, bind_s, if_neg one0, if_neg one0, e2, bind_s]
        obtain ⟨w', a1, a2, a3⟩ := loopG (fun n (u : Wd) i => f_X4_layEcho_b36 (nI c) (nI d) (nI s) n i u) (fun u => (f_X4_countFrom (nI c) 4095 u).bind (fun v3 => some (v3, u))) 3 (fun j u => PutC w u ∧ RC u 10 = foldN (stE d s c) j 0 (RM v) ∧ j ≤ 3) (by omega)
          (fun m' u hI => by
            show f_X4_layEcho_b36 (nI c) (nI d) (nI s) (m' + 1) (nI 3) u = _
            rw [f_X4_layEcho_b36, if_pos (by decide)])
          (fun m' j u hj hI => by
            have hvu : VR (RC u 10) := by rw [hI.2.1]; exact VR_ech hv hs hc j (by omega)
            obtain ⟨u', g1, g2, g3⟩ := c_echo1 hvu hc hd' hs hj
            refine ⟨u', ⟨hI.1.tr g2, ?_, by omega⟩, ?_⟩
            · rw [g3, hI.2.1, foldN_succ, Nat.zero_add]
            · show f_X4_layEcho_b36 (nI c) (nI d) (nI s) (m' + 1) (nI j) u = f_X4_layEcho_b36 (nI c) (nI d) (nI s) m' (nI (j + 1)) u'
              rw [f_X4_layEcho_b36, if_neg (fun q => by have := (c_lle (by decide) (by omega)).mp q; omega), if_pos (i_n hj (by omega)), n_cl (by omega), RC_w10 hj, a_ml, a_ml, nI_add, g1, bind_s, a_al]) w ⟨PutC.rf w, hr, by omega⟩
        obtain ⟨v', b1, b2, b3⟩ := loopG (fun n (u : Wd) i => f_X6_putEcho_b49 (nI d) (nI s) (nI (pos c)) n i u) (fun u => (f_X6_fullOnes (nI (pos c)) u).bind (fun v3 => some (v3, u))) 3 (fun j u => PutM v u ∧ RM u = foldN (stE d s c) j 0 (RM v) ∧ j ≤ 3) (by omega)
          (fun m' u hI => by
            show f_X6_putEcho_b49 (nI d) (nI s) (nI (pos c)) (m' + 1) (nI 3) u = _
            rw [f_X6_putEcho_b49, if_pos (by decide)])
          (fun m' j u hj hI => by
            have hvu : VR (RM u) := by rw [hI.2.1]; exact VR_ech hv hs hc j (by omega)
            have hw := VR_w hvu hj
            obtain ⟨b1, b2, b3, b4⟩ := echT_bd (r := d % tn (RM u (2 + j))) (wv := tn (RM u (2 + j))) (Nat.mod_lt _ (by omega)) (by omega)
            obtain ⟨x1, x2, x3, -⟩ := exy_c b1 b4 b2 b3 hs
            obtain ⟨u1, u2⟩ := unpack x1 x2
            have ejr : jrem (nI d) (RM u (2 + j)) = nI (d % tn (RM u (2 + j))) := by
              unfold jrem
              conv => lhs; rw [hw.1]
              rw [pk_rem (by omega) (by omega) (by omega)]
            have hw0 : ¬ RM u (2 + j) = 0 := by rw [hw.1]; exact fun q => by have := (c_eq0 (by omega)).mp q; omega
            have eT1 : FP.fdiv (FP.fmul (1082130432 : UInt32) (FP.i2f (nI (d % tn (RM u (2 + j)))))) (FP.i2f (RM u (2 + j))) = echT (d % tn (RM u (2 + j))) (tn (RM u (2 + j))) := by
              unfold echT
              rw [← hw.1]
            have estE : stE d s c j (RM u) = sigR (RM u) (pos c + 4 * j) (exy s (echT (d % tn (RM u (2 + j))) (tn (RM u (2 + j))))).1 (exy s (echT (d % tn (RM u (2 + j))) (tn (RM u (2 + j))))).2 := rfl
            have hpb : pos c + 4 * j + 3 < 395 := by unfold pos; omega
            show ∃ s', _ ∧ f_X6_putEcho_b49 (nI d) (nI s) (nI (pos c)) (m' + 1) (nI j) u = f_X6_putEcho_b49 (nI d) (nI s) (nI (pos c)) m' (nI (j + 1)) s'
            rw [f_X6_putEcho_b49, if_neg (fun q => by have := (c_lle (by decide) (by omega)).mp q; omega), a_la, if_pos (i_n (by omega) (by omega)), n_cl (by omega), RM_at (by omega), jlet_eq, if_pos hw0, jlet_eq, ejr, if_pos (nn_of (FP.Core.fmul_out fin_4 (fin_i _))), eT1, if_pos (nn_of b1.notNaN), jlet_eq, x3, bind_s, if_pos (by decide), jlet_eq, u1, if_pos (by decide), jlet_eq, u2]
            generalize exy s (echT (d % tn (RM u (2 + j))) (tn (RM u (2 + j)))) = xy at *
            obtain ⟨X, Y⟩ := xy
            have fin : ∀ (i1 i2 : Nat), i1 < 395 → i2 < 395 → sigP X (pos c + 4 * j) 0 = i1 → sigP Y (pos c + 4 * j) 1 = i2 → ∃ s' : Wd, (PutM v s' ∧ RM s' = foldN (stE d s c) (j + 1) 0 (RM v) ∧ j + 1 ≤ 3) ∧ s' = wset (wset u 1 i1 (brt (ab X) (RM u i1))) 1 i2 (brt (ab Y) (RM (wset u 1 i1 (brt (ab X) (RM u i1))) i2)) := fun i1 i2 h1 h2 p1 p2 => by
              refine ⟨_, ⟨(hI.1.s _ _).s _ _, ?_, by omega⟩, rfl⟩
              rw [RM_s _ h2, RM_s _ h1, foldN_succ, Nat.zero_add, ← hI.2.1, estE]
              unfold sigR
              rw [p1, p2]
            unfold f_X6_putEcho_b155 f_X6_putEcho_b196
            by_cases hX : X ≤ 0
            · by_cases hY : Y ≤ 0
              · obtain ⟨s', g1, rfl⟩ := fin (pos c + 4 * j + 2) (pos c + 4 * j + 3) (by omega) (by omega) (by unfold sigP; rw [if_pos hX]) (by unfold sigP; rw [if_pos hY])
                refine ⟨_, g1, ?_⟩
                simp only [if_pos hX, if_pos hY, ← ab_n hX, ← ab_n hY, a_lm, nI_add, a_al]
                rw [m_raised (by omega), bind_s, m_raised (by omega), bind_s]
              · obtain ⟨s', g1, rfl⟩ := fin (pos c + 4 * j + 2) (pos c + 4 * j + 1) (by omega) (by omega) (by unfold sigP; rw [if_pos hX]) (by unfold sigP; rw [if_neg hY])
                refine ⟨_, g1, ?_⟩
                simp only [if_pos hX, if_neg hY, ← ab_n hX, ab_p hY, a_lm, nI_add, a_al]
                rw [m_raised (by omega), bind_s, m_raised (by omega), bind_s]
            · by_cases hY : Y ≤ 0
              · obtain ⟨s', g1, rfl⟩ := fin (pos c + 4 * j) (pos c + 4 * j + 3) (by omega) (by omega) (by unfold sigP; rw [if_neg hX]; rfl) (by unfold sigP; rw [if_pos hY])
                refine ⟨_, g1, ?_⟩
                simp only [if_neg hX, if_pos hY, ab_p hX, ← ab_n hY, a_lm, nI_add, a_al]
                rw [m_raised (by omega), bind_s, m_raised (by omega), bind_s]
              · obtain ⟨s', g1, rfl⟩ := fin (pos c + 4 * j) (pos c + 4 * j + 1) (by omega) (by omega) (by unfold sigP; rw [if_neg hX]; rfl) (by unfold sigP; rw [if_neg hY])
                refine ⟨_, g1, ?_⟩
                simp only [if_neg hX, if_neg hY, ab_p hX, ab_p hY, a_lm, nI_add, a_al]
                rw [m_raised (by omega), bind_s, m_raised (by omega), bind_s]) v ⟨PutM.rf v, rfl, by omega⟩
        have hvv : VR (RM v') := by rw [b3.1]; exact VR_ech hv hs hc 3 (by omega)
        have hle : cntS (RM v') c 4095 ≤ 12 := by
          have h1 : cntS (RM v') c 4095 = cnt12 (fun i => decide (¬ RM v' (pos c + i) < 4095)) 12 := cntS_g (fun i hi => by rw [decide_eq_true_eq])
          rw [h1]
          exact cnt_le _ 12
        refine ⟨nI (cntS (RM v') c 4095), w', v', ?_, ?_, a2, b2, by rw [a3.1, b3.1], hvv, fun q => absurd q (nb (by omega))⟩
        · rw [show f_X4_layEcho_b36 (nI c) (nI d) (nI s) FUEL 0 w = _ from a1, c_count hc, bind_s, a3.1, b3.1]
        · rw [show f_X6_putEcho_b49 (nI d) (nI s) (nI (pos c)) FUEL 0 v = _ from b1, m_full hvv hc, bind_s]
      · rw [e8, e9, bind_s, bind_s, if_pos rfl, if_pos rfl]
        exact Up_bad hr hv rfl rfl
    · rw [e6, e7, bind_s, bind_s, if_pos rfl, if_pos rfl]
      exact Up_bad hr hv rfl rfl
  · obtain rfl : p = -1 := Option.some.inj (hp.symm.trans hp')
    rw [c_isCellN, e1, bind_s, bind_s, if_pos rfl, if_pos rfl]
    exact Up_bad hr hv rfl rfl
