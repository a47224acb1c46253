theorem r_split {τ : Type} {E : Sp} {M : Mt} {O : τ → Option Value × Wd} {w : Wd} {pc : Nat} {lv : List (Nat × Value)} {st : List Value} {K1 K2 : Option τ} {c : Prop} [Decidable c] (kt : c → Wm E M O w pc lv st K1) (kf : ¬ c → Wm E M O w pc lv st K2) : Wm E M O w pc lv st (if c then K1 else K2) := by
  by_cases h : c
  · rw [if_pos h]; exact kt h
  · rw [if_neg h]; exact kf h
theorem r_tin {τ : Type} {E : Sp} {M : Mt} {O : τ → Option Value × Wd} {w : Wd} {pc : Nat} {lv : List (Nat × Value)} {st : List Value} {K : Option τ} {x k : Int32} {dflt lo hi : Int} {offs : Array Int} {len tgt : Nat} (d : decode M.1 pc = .ok (.tableswitch dflt lo hi offs, len)) (hx : x = k) (hk : ¬ k.toInt < lo ∧ ¬ hi < k.toInt ∧ (offs[(k.toInt - lo).toNat]?).map (fun q => (pc : Int) + q) = some (tgt : Int)) (kk : Wm E M O w tgt lv st K) : Wm E M O w pc lv (.int x :: st) K := by
  subst hx
  obtain ⟨h1, h2, h3⟩ := hk
  obtain ⟨off, h4, h5⟩ := Option.map_eq_some_iff.mp h3
  exact fun z hz p e s m args below meth c H locs ls C hP hD hS hl => lv_tableIn C.1 C.2.1 d h1 h2 h4 h5 (kk z hz p e s m args below meth c H locs ls C hP hD hS hl)
theorem r_tout {τ : Type} {E : Sp} {M : Mt} {O : τ → Option Value × Wd} {w : Wd} {pc : Nat} {lv : List (Nat × Value)} {st : List Value} {K : Option τ} {x : Int32} {dflt lo hi : Int} {offs : Array Int} {len tgt : Nat} (d : decode M.1 pc = .ok (.tableswitch dflt lo hi offs, len)) (h : x.toInt < lo ∨ hi < x.toInt) (ht : (pc : Int) + dflt = (tgt : Int)) (kk : Wm E M O w tgt lv st K) : Wm E M O w pc lv (.int x :: st) K := fun z hz p e s m args below meth c H locs ls C hP hD hS hl => lv_tableOut C.1 C.2.1 d h ht (kk z hz p e s m args below meth c H locs ls C hP hD hS hl)
theorem r_lin {τ : Type} {E : Sp} {M : Mt} {O : τ → Option Value × Wd} {w : Wd} {pc : Nat} {lv : List (Nat × Value)} {st : List Value} {K : Option τ} {x k : Int32} {dflt : Int} {ps : Array (Int × Int)} {len tgt : Nat} (d : decode M.1 pc = .ok (.lookupswitch dflt ps, len)) (hx : x = k) (hk : (ps.toList.zip (ps.toList.drop 1)).all (fun (a, next) => a.1 < next.1) = true ∧ (pc : Int) + Op.lookupswitch.offset ps.toList dflt k.toInt = (tgt : Int)) (kk : Wm E M O w tgt lv st K) : Wm E M O w pc lv (.int x :: st) K := by
  subst hx
  exact fun z hz p e s m args below meth c H locs ls C hP hD hS hl => lv_lookup C.1 C.2.1 d hk.1 rfl hk.2 (kk z hz p e s m args below meth c H locs ls C hP hD hS hl)
theorem r_lout {τ : Type} {E : Sp} {M : Mt} {O : τ → Option Value × Wd} {w : Wd} {pc : Nat} {lv : List (Nat × Value)} {st : List Value} {K : Option τ} {x : Int32} {dflt : Int} {ps : Array (Int × Int)} {len tgt : Nat} (d : decode M.1 pc = .ok (.lookupswitch dflt ps, len)) (hp : (ps.toList.zip (ps.toList.drop 1)).all (fun (a, next) => a.1 < next.1) = true) (ho : Op.lookupswitch.offset ps.toList dflt x.toInt = dflt) (ht : (pc : Int) + dflt = (tgt : Int)) (kk : Wm E M O w tgt lv st K) : Wm E M O w pc lv (.int x :: st) K := fun z hz p e s m args below meth c H locs ls C hP hD hS hl => lv_lookup C.1 C.2.1 d hp ho ht (kk z hz p e s m args below meth c H locs ls C hP hD hS hl)
/-- the number of a kept state -/
def inS (x : Int32) : Bool := decide (x = 2) || decide (x = 3) || decide (x = 4) || decide (x = 5) || decide (x = 6)
theorem inS_cases {x : Int32} (h : inS x = true) : x = 2 ∨ x = 3 ∨ x = 4 ∨ x = 5 ∨ x = 6 := by
  simp only [inS, Bool.or_eq_true, decide_eq_true_eq] at h
  rcases h with (((h | h) | h) | h) | h <;> simp [h]
theorem inS_cell (Z : CSp) (w : Wd) {x : Int32} (h : inS x = true) : ∃ (q : Nat) (fs : List Value), (eC (EC Z) w)[q]? = some (aC Z (sc x), .inr (2, fs)) := by
  rcases inS_cases h with rfl | rfl | rfl | rfl | rfl
  · exact ⟨18, _, qC_18 Z w⟩
  · exact ⟨22, _, qC_22 Z w⟩
  · exact ⟨26, _, qC_26 Z w⟩
  · exact ⟨30, _, qC_30 Z w⟩
  · exact ⟨34, _, qC_34 Z w⟩
theorem r_aald {τ : Type} {M : Mt} {O : τ → Option Value × Wd} {w : Wd} {pc : Nat} {lv : List (Nat × Value)} {st : List Value} {K : Option τ} {i : Int32} (Z : CSp) (d : decode M.1 pc = .ok (.aaload, 1)) (k : Wm (EC Z) M O w (pc + 1) lv (.ref (aC Z (sc (w.1 9 i.toNatClampNeg))) :: st) K) : Wm (EC Z) M O w pc lv (.int i :: .ref (aC Z 9) :: st) (if inb i 5 = true then K else none) := by
  intro z hz p e s m args below meth c H locs ls C hP hD hS hl
  by_cases h : inb i 5 = true
  · rw [if_pos h] at hz
    exact va_aldq C.1 C.2.1 C.2.2.2.2.2.2.2.2.1 hP 9 1 (qC_9 Z w) rfl (inb_in h) d (k z hz p e s m args below meth c H locs ls C hP hD hS hl)
  · rw [if_neg h] at hz
    cases hz
theorem uC_9 (Z : CSp) (w : Wd) (x : Int32) (j : Nat) : (eC (EC Z) w).set 9 (aC Z 9, .inl (cR Z, 5, .inr (.inr (.inr (.inr (va_up (fun j => some (aC Z (sc (w.1 9 j)))) j (some (aC Z (sc x))))))))) = eC (EC Z) (wset w 9 j x) := by
  have h : (va_up (fun j => some (aC Z (sc (w.1 9 j)))) j (some (aC Z (sc x)))) = (fun i => some (aC Z (sc (upd (w.1 9) j x i)))) := by
    funext i
    unfold va_up upd
    by_cases hi : i = j
    · simp [hi]
    · simp [hi]
  rw [h]
  rfl
theorem r_aast {τ : Type} {M : Mt} {O : τ → Option Value × Wd} {w : Wd} {pc : Nat} {lv : List (Nat × Value)} {st : List Value} {K : Wd → Option τ} {i x : Int32} (Z : CSp) (d : decode M.1 pc = .ok (.aastore, 1)) (k : ∀ w1 : Wd, Wm (EC Z) M O w1 (pc + 1) lv st (K w1)) : Wm (EC Z) M O w pc lv (.ref (aC Z (sc x)) :: .int i :: .ref (aC Z 9) :: st) (if inb i 5 = true ∧ inS x = true then wput w 9 i.toNatClampNeg x K else none) := by
  intro z hz p e s m args below meth c H locs ls C hP hD hS hl
  by_cases h : inb i 5 = true ∧ inS x = true
  · rw [if_pos h] at hz
    obtain ⟨q, fs, hq⟩ := inS_cell Z w h.2
    exact va_astq (r := (RX4, TX4, 5)) C.1 C.2.1 C.2.2.2.2.2.2.2.2.1 hP hD hS 9 1 q 2 (qC_9 Z w) rfl hq rfl (inb_in h.1) d (fun H locs hP hD hS => k _ z hz p e s m args below meth c H locs ls C (uC_9 Z w x _ ▸ hP) (uC_9 Z w x _ ▸ hD) hS hl)
  · rw [if_neg h] at hz
    cases hz
/-- State.copyFrom, the state at cell i from the one at cell j -/
def f_X4_copyFrom (i j : Nat) (w : Wd) : Option Wd :=
  wput w i 0 (w.1 j 0) (fun w1 => wput w1 i 1 (w1.1 j 1) (fun w2 => wputf w2 (i + 1) (va_cpy (w2.1 (j + 1)) (w2.1 (i + 1)) 0 0 3) (fun w3 => wputf w3 (i + 2) (va_cpy (w3.1 (j + 2)) (w3.1 (i + 2)) 0 0 6) (fun w4 => wputf w4 (i + 3) (va_cpy (w4.1 (j + 3)) (w4.1 (i + 3)) 0 0 384) (fun w5 => some w5)))))
theorem cfJ7_fill_53178 : CFs yJ7_fill_53178 cJ7_fill_53178 4 none 2 := ⟨⟨kc_J7_fill_53178, kin_J7, by decide, by decide, by decide +kernel⟩, kst_J7_fill_53178⟩
theorem cfJxe99ae_doubleToLongBits_ccdee : CFs yJxe99ae_doubleToLongBits_ccdee cJxe99ae_doubleToLongBits_ccdee 2 (some .long) 1 := ⟨⟨kc_Jxe99ae_doubleToLongBits_ccdee, kin_Jxe99ae, by decide, by decide, by decide +kernel⟩, kst_Jxe99ae_doubleToLongBits_ccdee⟩
theorem cfJxe99ae_isNaN_b9ae7 : CFs yJxe99ae_isNaN_b9ae7 cJxe99ae_isNaN_b9ae7 2 (some .boolean) 1 := ⟨⟨kc_Jxe99ae_isNaN_b9ae7, kin_Jxe99ae, by decide, by decide, by decide +kernel⟩, kst_Jxe99ae_isNaN_b9ae7⟩
theorem cfJxf58ca_floatToIntBits_5c35a : CFs yJxf58ca_floatToIntBits_5c35a cJxf58ca_floatToIntBits_5c35a 1 (some .int) 1 := ⟨⟨kc_Jxf58ca_floatToIntBits_5c35a, kin_Jxf58ca, by decide, by decide, by decide +kernel⟩, kst_Jxf58ca_floatToIntBits_5c35a⟩
theorem cfJxf58ca_isNaN_12338 : CFs yJxf58ca_isNaN_12338 cJxf58ca_isNaN_12338 1 (some .boolean) 1 := ⟨⟨kc_Jxf58ca_isNaN_12338, kin_Jxf58ca, by decide, by decide, by decide +kernel⟩, kst_Jxf58ca_isNaN_12338⟩
theorem cfX0_ofDouble : CFs yX0_ofDouble cX0_ofDouble 7 (some .long) 1 := ⟨⟨kc_X0_ofDouble, kin_X0, by decide, by decide, by decide +kernel⟩, kst_X0_ofDouble⟩
theorem cfX0_ofFloat : CFs yX0_ofFloat cX0_ofFloat 4 (some .int) 1 := ⟨⟨kc_X0_ofFloat, kin_X0, by decide, by decide, by decide +kernel⟩, kst_X0_ofFloat⟩
theorem cfX1_append : CFv yX1_append cX1_append 2 (some .boolean) 1 := ⟨⟨kc_X1_append, kin_X1, by decide, by decide, by decide +kernel⟩, ki_X1_append, ks_X1_append⟩
theorem cfX1_endNumber : CFv yX1_endNumber cX1_endNumber 1 none 0 := ⟨⟨kc_X1_endNumber, kin_X1, by decide, by decide, by decide +kernel⟩, ki_X1_endNumber, ks_X1_endNumber⟩
theorem cfX1_item : CFv yX1_item cX1_item 2 (some .int) 1 := ⟨⟨kc_X1_item, kin_X1, by decide, by decide, by decide +kernel⟩, ki_X1_item, ks_X1_item⟩
theorem cfX1_keep : CFv yX1_keep cX1_keep 2 none 1 := ⟨⟨kc_X1_keep, kin_X1, by decide, by decide, by decide +kernel⟩, ki_X1_keep, ks_X1_keep⟩
theorem cfX1_numbersOf : CFs yX1_numbersOf cX1_numbersOf 1 (some .int) 1 := ⟨⟨kc_X1_numbersOf, kin_X1, by decide, by decide, by decide +kernel⟩, kst_X1_numbersOf⟩
theorem cfX1_readAll : CFv yX1_readAll cX1_readAll 2 (some .int) 0 := ⟨⟨kc_X1_readAll, kin_X1, by decide, by decide, by decide +kernel⟩, ki_X1_readAll, ks_X1_readAll⟩
theorem cfX1_takes : CFv yX1_takes cX1_takes 2 (some .boolean) 1 := ⟨⟨kc_X1_takes, kin_X1, by decide, by decide, by decide +kernel⟩, ki_X1_takes, ks_X1_takes⟩
theorem cfX1_takesFigure : CFv yX1_takesFigure cX1_takesFigure 2 (some .boolean) 1 := ⟨⟨kc_X1_takesFigure, kin_X1, by decide, by decide, by decide +kernel⟩, ki_X1_takesFigure, ks_X1_takesFigure⟩
theorem cfX2_beyondOf : CFv yX2_beyondOf cX2_beyondOf 2 (some .int) 1 := ⟨⟨kc_X2_beyondOf, kin_X2, by decide, by decide, by decide +kernel⟩, ki_X2_beyondOf, ks_X2_beyondOf⟩
theorem cfX2_distanceOf : CFv yX2_distanceOf cX2_distanceOf 2 (some .int) 1 := ⟨⟨kc_X2_distanceOf, kin_X2, by decide, by decide, by decide +kernel⟩, ki_X2_distanceOf, ks_X2_distanceOf⟩
theorem cfX2_filled : CFv yX2_filled cX2_filled 12 (some .int) 3 := ⟨⟨kc_X2_filled, kin_X2, by decide, by decide, by decide +kernel⟩, ki_X2_filled, ks_X2_filled⟩
theorem cfX2_forget : CFv yX2_forget cX2_forget 1 none 0 := ⟨⟨kc_X2_forget, kin_X2, by decide, by decide, by decide +kernel⟩, ki_X2_forget, ks_X2_forget⟩
theorem cfX2_markOf : CFv yX2_markOf cX2_markOf 3 (some .int) 1 := ⟨⟨kc_X2_markOf, kin_X2, by decide, by decide, by decide +kernel⟩, ki_X2_markOf, ks_X2_markOf⟩
theorem cfX2_meanBits : CFv yX2_meanBits cX2_meanBits 7 (some .long) 1 := ⟨⟨kc_X2_meanBits, kin_X2, by decide, by decide, by decide +kernel⟩, ki_X2_meanBits, ks_X2_meanBits⟩
theorem cfX2_misfit : CFv yX2_misfit cX2_misfit 6 (some .int) 2 := ⟨⟨kc_X2_misfit, kin_X2, by decide, by decide, by decide +kernel⟩, ki_X2_misfit, ks_X2_misfit⟩
theorem cfX2_nearOf : CFv yX2_nearOf cX2_nearOf 2 (some .int) 1 := ⟨⟨kc_X2_nearOf, kin_X2, by decide, by decide, by decide +kernel⟩, ki_X2_nearOf, ks_X2_nearOf⟩
theorem cfX2_reckon : CFv yX2_reckon cX2_reckon 5 (some .int) 1 := ⟨⟨kc_X2_reckon, kin_X2, by decide, by decide, by decide +kernel⟩, ki_X2_reckon, ks_X2_reckon⟩
theorem cfX2_reckonPairs : CFv yX2_reckonPairs cX2_reckonPairs 5 (some .int) 1 := ⟨⟨kc_X2_reckonPairs, kin_X2, by decide, by decide, by decide +kernel⟩, ki_X2_reckonPairs, ks_X2_reckonPairs⟩
theorem cfX2_search : CFv yX2_search cX2_search 7 (some .boolean) 1 := ⟨⟨kc_X2_search, kin_X2, by decide, by decide, by decide +kernel⟩, ki_X2_search, ks_X2_search⟩
theorem cfX2_shift : CFv yX2_shift cX2_shift 3 (some .int) 2 := ⟨⟨kc_X2_shift, kin_X2, by decide, by decide, by decide +kernel⟩, ki_X2_shift, ks_X2_shift⟩
theorem cfX2_widestGap : CFv yX2_widestGap cX2_widestGap 5 (some .int) 2 := ⟨⟨kc_X2_widestGap, kin_X2, by decide, by decide, by decide +kernel⟩, ki_X2_widestGap, ks_X2_widestGap⟩
theorem cfX3_awayFrom : CFs yX3_awayFrom cX3_awayFrom 4 (some .int) 3 := ⟨⟨kc_X3_awayFrom, kin_X3, by decide, by decide, by decide +kernel⟩, kst_X3_awayFrom⟩
theorem cfX3_gap : CFs yX3_gap cX3_gap 6 (some .int) 4 := ⟨⟨kc_X3_gap, kin_X3, by decide, by decide, by decide +kernel⟩, kst_X3_gap⟩
theorem cfX3_phase : CFs yX3_phase cX3_phase 4 (some .float) 2 := ⟨⟨kc_X3_phase, kin_X3, by decide, by decide, by decide +kernel⟩, kst_X3_phase⟩
theorem cfX3_residue : CFs yX3_residue cX3_residue 3 (some .int) 3 := ⟨⟨kc_X3_residue, kin_X3, by decide, by decide, by decide +kernel⟩, kst_X3_residue⟩
theorem cfX3_size : CFs yX3_size cX3_size 2 (some .int) 2 := ⟨⟨kc_X3_size, kin_X3, by decide, by decide, by decide +kernel⟩, kst_X3_size⟩
theorem cfX3_strength : CFs yX3_strength cX3_strength 2 (some .float) 2 := ⟨⟨kc_X3_strength, kin_X3, by decide, by decide, by decide +kernel⟩, kst_X3_strength⟩
theorem cfX4_across : CFv yX4_across cX4_across 3 (some .int) 2 := ⟨⟨kc_X4_across, kin_X4, by decide, by decide, by decide +kernel⟩, ki_X4_across, ks_X4_across⟩
theorem cfX4_addLight : CFv yX4_addLight cX4_addLight 4 (some .int) 2 := ⟨⟨kc_X4_addLight, kin_X4, by decide, by decide, by decide +kernel⟩, ki_X4_addLight, ks_X4_addLight⟩
theorem cfX4_addSignal : CFv yX4_addSignal cX4_addSignal 4 none 3 := ⟨⟨kc_X4_addSignal, kin_X4, by decide, by decide, by decide +kernel⟩, ki_X4_addSignal, ks_X4_addSignal⟩
theorem cfX4_along : CFv yX4_along cX4_along 3 (some .int) 2 := ⟨⟨kc_X4_along, kin_X4, by decide, by decide, by decide +kernel⟩, ki_X4_along, ks_X4_along⟩
theorem cfX4_brighten : CFv yX4_brighten cX4_brighten 3 none 2 := ⟨⟨kc_X4_brighten, kin_X4, by decide, by decide, by decide +kernel⟩, ki_X4_brighten, ks_X4_brighten⟩
theorem cfX4_brightness : CFv yX4_brightness cX4_brightness 2 (some .float) 1 := ⟨⟨kc_X4_brightness, kin_X4, by decide, by decide, by decide +kernel⟩, ki_X4_brightness, ks_X4_brightness⟩
theorem cfX4_copyFrom : CFv yX4_copyFrom cX4_copyFrom 2 none 1 := ⟨⟨kc_X4_copyFrom, kin_X4, by decide, by decide, by decide +kernel⟩, ki_X4_copyFrom, ks_X4_copyFrom⟩
theorem cfX4_countFrom : CFv yX4_countFrom cX4_countFrom 5 (some .int) 2 := ⟨⟨kc_X4_countFrom, kin_X4, by decide, by decide, by decide +kernel⟩, ki_X4_countFrom, ks_X4_countFrom⟩
theorem cfX4_darken : CFv yX4_darken cX4_darken 4 (some .int) 1 := ⟨⟨kc_X4_darken, kin_X4, by decide, by decide, by decide +kernel⟩, ki_X4_darken, ks_X4_darken⟩
theorem cfX4_isCell : CFs yX4_isCell cX4_isCell 1 (some .boolean) 1 := ⟨⟨kc_X4_isCell, kin_X4, by decide, by decide, by decide +kernel⟩, kst_X4_isCell⟩
theorem cfX4_layEcho : CFv yX4_layEcho cX4_layEcho 5 (some .int) 3 := ⟨⟨kc_X4_layEcho, kin_X4, by decide, by decide, by decide +kernel⟩, ki_X4_layEcho, ks_X4_layEcho⟩
theorem cfX4_layEchoOfRate : CFv yX4_layEchoOfRate cX4_layEchoOfRate 8 none 4 := ⟨⟨kc_X4_layEchoOfRate, kin_X4, by decide, by decide, by decide +kernel⟩, ki_X4_layEchoOfRate, ks_X4_layEchoOfRate⟩
theorem cfX4_layGrid : CFv yX4_layGrid cX4_layGrid 4 (some .int) 2 := ⟨⟨kc_X4_layGrid, kin_X4, by decide, by decide, by decide +kernel⟩, ki_X4_layGrid, ks_X4_layGrid⟩
theorem cfX4_place : CFv yX4_place cX4_place 5 (some .int) 3 := ⟨⟨kc_X4_place, kin_X4, by decide, by decide, by decide +kernel⟩, ki_X4_place, ks_X4_place⟩
theorem cfX4_putSample : CFv yX4_putSample cX4_putSample 7 (some .int) 4 := ⟨⟨kc_X4_putSample, kin_X4, by decide, by decide, by decide +kernel⟩, ki_X4_putSample, ks_X4_putSample⟩
theorem cfX4_putSetting : CFv yX4_putSetting cX4_putSetting 4 (some .int) 2 := ⟨⟨kc_X4_putSetting, kin_X4, by decide, by decide, by decide +kernel⟩, ki_X4_putSetting, ks_X4_putSetting⟩
theorem cfX4_putWave : CFv yX4_putWave cX4_putWave 4 (some .int) 2 := ⟨⟨kc_X4_putWave, kin_X4, by decide, by decide, by decide +kernel⟩, ki_X4_putWave, ks_X4_putWave⟩
theorem cfX4_sampleAt : CFv yX4_sampleAt cX4_sampleAt 5 (some .int) 3 := ⟨⟨kc_X4_sampleAt, kin_X4, by decide, by decide, by decide +kernel⟩, ki_X4_sampleAt, ks_X4_sampleAt⟩
theorem cfX4_setting : CFv yX4_setting cX4_setting 3 (some .int) 1 := ⟨⟨kc_X4_setting, kin_X4, by decide, by decide, by decide +kernel⟩, ki_X4_setting, ks_X4_setting⟩
theorem cfX4_strengthOf : CFv yX4_strengthOf cX4_strengthOf 3 (some .float) 2 := ⟨⟨kc_X4_strengthOf, kin_X4, by decide, by decide, by decide +kernel⟩, ki_X4_strengthOf, ks_X4_strengthOf⟩
theorem cfX5_away : CFv yX5_away cX5_away 8 (some .int) 5 := ⟨⟨kc_X5_away, kin_X5, by decide, by decide, by decide +kernel⟩, ki_X5_away, ks_X5_away⟩
theorem cfX5_back : CFv yX5_back cX5_back 1 (some .int) 0 := ⟨⟨kc_X5_back, kin_X5, by decide, by decide, by decide +kernel⟩, ki_X5_back, ks_X5_back⟩
theorem cfX5_bits : CFv yX5_bits cX5_bits 9 (some .int) 5 := ⟨⟨kc_X5_bits, kin_X5, by decide, by decide, by decide +kernel⟩, ki_X5_bits, ks_X5_bits⟩
theorem cfX5_cell : CFv yX5_cell cX5_cell 7 (some .int) 4 := ⟨⟨kc_X5_cell, kin_X5, by decide, by decide, by decide +kernel⟩, ki_X5_cell, ks_X5_cell⟩
theorem cfX5_clear : CFv yX5_clear cX5_clear 2 (some .int) 0 := ⟨⟨kc_X5_clear, kin_X5, by decide, by decide, by decide +kernel⟩, ki_X5_clear, ks_X5_clear⟩
theorem cfX5_clears : CFv yX5_clears cX5_clears 4 (some .int) 3 := ⟨⟨kc_X5_clears, kin_X5, by decide, by decide, by decide +kernel⟩, ki_X5_clears, ks_X5_clears⟩
theorem cfX5_digest : CFv yX5_digest cX5_digest 6 (some .long) 0 := ⟨⟨kc_X5_digest, kin_X5, by decide, by decide, by decide +kernel⟩, ki_X5_digest, ks_X5_digest⟩
theorem cfX5_digestCell : CFv yX5_digestCell cX5_digestCell 11 (some .long) 4 := ⟨⟨kc_X5_digestCell, kin_X5, by decide, by decide, by decide +kernel⟩, ki_X5_digestCell, ks_X5_digestCell⟩
theorem cfX5_does : CFv yX5_does cX5_does 4 (some .int) 0 := ⟨⟨kc_X5_does, kin_X5, by decide, by decide, by decide +kernel⟩, ki_X5_does, ks_X5_does⟩
theorem cfX5_echo : CFv yX5_echo cX5_echo 6 (some .int) 5 := ⟨⟨kc_X5_echo, kin_X5, by decide, by decide, by decide +kernel⟩, ki_X5_echo, ks_X5_echo⟩
theorem cfX5_glow : CFv yX5_glow cX5_glow 5 (some .int) 3 := ⟨⟨kc_X5_glow, kin_X5, by decide, by decide, by decide +kernel⟩, ki_X5_glow, ks_X5_glow⟩
theorem cfX5_grid : CFv yX5_grid cX5_grid 3 (some .int) 2 := ⟨⟨kc_X5_grid, kin_X5, by decide, by decide, by decide +kernel⟩, ki_X5_grid, ks_X5_grid⟩
theorem cfX5_keepBefore : CFv yX5_keepBefore cX5_keepBefore 3 none 0 := ⟨⟨kc_X5_keepBefore, kin_X5, by decide, by decide, by decide +kernel⟩, ki_X5_keepBefore, ks_X5_keepBefore⟩
theorem cfX5_mark : CFv yX5_mark cX5_mark 5 (some .int) 3 := ⟨⟨kc_X5_mark, kin_X5, by decide, by decide, by decide +kernel⟩, ki_X5_mark, ks_X5_mark⟩
theorem cfX5_marks : CFv yX5_marks cX5_marks 6 (some .int) 2 := ⟨⟨kc_X5_marks, kin_X5, by decide, by decide, by decide +kernel⟩, ki_X5_marks, ks_X5_marks⟩
theorem cfX5_mean : CFv yX5_mean cX5_mean 2 (some .long) 1 := ⟨⟨kc_X5_mean, kin_X5, by decide, by decide, by decide +kernel⟩, ki_X5_mean, ks_X5_mean⟩
theorem cfX5_motion : CFv yX5_motion cX5_motion 6 (some .int) 2 := ⟨⟨kc_X5_motion, kin_X5, by decide, by decide, by decide +kernel⟩, ki_X5_motion, ks_X5_motion⟩
theorem cfX5_moved : CFv yX5_moved cX5_moved 5 (some .int) 0 := ⟨⟨kc_X5_moved, kin_X5, by decide, by decide, by decide +kernel⟩, ki_X5_moved, ks_X5_moved⟩
theorem cfX5_of : CFv yX5_of cX5_of 9 (some .int) 5 := ⟨⟨kc_X5_of, kin_X5, by decide, by decide, by decide +kernel⟩, ki_X5_of, ks_X5_of⟩
theorem cfX5_perform : CFv yX5_perform cX5_perform 5 (some .int) 1 := ⟨⟨kc_X5_perform, kin_X5, by decide, by decide, by decide +kernel⟩, ki_X5_perform, ks_X5_perform⟩
theorem cfX5_raw : CFv yX5_raw cX5_raw 7 (some .int) 5 := ⟨⟨kc_X5_raw, kin_X5, by decide, by decide, by decide +kernel⟩, ki_X5_raw, ks_X5_raw⟩
theorem cfX5_refuse : CFv yX5_refuse cX5_refuse 2 (some .int) 1 := ⟨⟨kc_X5_refuse, kin_X5, by decide, by decide, by decide +kernel⟩, ki_X5_refuse, ks_X5_refuse⟩
theorem cfX5_refused : CFv yX5_refused cX5_refused 2 (some .int) 1 := ⟨⟨kc_X5_refused, kin_X5, by decide, by decide, by decide +kernel⟩, ki_X5_refused, ks_X5_refused⟩
theorem cfX5_sample : CFv yX5_sample cX5_sample 7 (some .int) 6 := ⟨⟨kc_X5_sample, kin_X5, by decide, by decide, by decide +kernel⟩, ki_X5_sample, ks_X5_sample⟩
theorem cfX5_sets : CFv yX5_sets cX5_sets 3 (some .int) 2 := ⟨⟨kc_X5_sets, kin_X5, by decide, by decide, by decide +kernel⟩, ki_X5_sets, ks_X5_sets⟩
theorem cfX5_settle : CFv yX5_settle cX5_settle 2 (some .int) 1 := ⟨⟨kc_X5_settle, kin_X5, by decide, by decide, by decide +kernel⟩, ki_X5_settle, ks_X5_settle⟩
theorem cfX5_shines : CFv yX5_shines cX5_shines 5 (some .int) 4 := ⟨⟨kc_X5_shines, kin_X5, by decide, by decide, by decide +kernel⟩, ki_X5_shines, ks_X5_shines⟩
theorem cfX5_tally : CFv yX5_tally cX5_tally 2 (some .int) 1 := ⟨⟨kc_X5_tally, kin_X5, by decide, by decide, by decide +kernel⟩, ki_X5_tally, ks_X5_tally⟩
theorem cfX5_told : CFv yX5_told cX5_told 2 (some .int) 1 := ⟨⟨kc_X5_told, kin_X5, by decide, by decide, by decide +kernel⟩, ki_X5_told, ks_X5_told⟩
theorem cfX5_type : CFv yX5_type cX5_type 2 (some .int) 1 := ⟨⟨kc_X5_type, kin_X5, by decide, by decide, by decide +kernel⟩, ki_X5_type, ks_X5_type⟩
theorem cfX5_wave : CFv yX5_wave cX5_wave 3 (some .int) 2 := ⟨⟨kc_X5_wave, kin_X5, by decide, by decide, by decide +kernel⟩, ki_X5_wave, ks_X5_wave⟩
theorem cfX5_within : CFs yX5_within cX5_within 3 (some .boolean) 3 := ⟨⟨kc_X5_within, kin_X5, by decide, by decide, by decide +kernel⟩, kst_X5_within⟩
theorem cfX5_wraps : CFv yX5_wraps cX5_wraps 7 (some .int) 4 := ⟨⟨kc_X5_wraps, kin_X5, by decide, by decide, by decide +kernel⟩, ki_X5_wraps, ks_X5_wraps⟩
theorem cfX6_acrossOf : CFv yX6_acrossOf cX6_acrossOf 2 (some .int) 1 := ⟨⟨kc_X6_acrossOf, kin_X6, by decide, by decide, by decide +kernel⟩, ki_X6_acrossOf, ks_X6_acrossOf⟩
theorem cfX6_away : CFv yX6_away cX6_away 8 (some .int) 5 := ⟨⟨kc_X6_away, kin_X6, by decide, by decide, by decide +kernel⟩, ki_X6_away, ks_X6_away⟩
theorem cfX6_awayOf : CFs yX6_awayOf cX6_awayOf 4 (some .int) 3 := ⟨⟨kc_X6_awayOf, kin_X6, by decide, by decide, by decide +kernel⟩, kst_X6_awayOf⟩
theorem cfX6_back : CFv yX6_back cX6_back 2 (some .int) 0 := ⟨⟨kc_X6_back, kin_X6, by decide, by decide, by decide +kernel⟩, ki_X6_back, ks_X6_back⟩
theorem cfX6_bad : CFv yX6_bad cX6_bad 1 (some .int) 0 := ⟨⟨kc_X6_bad, kin_X6, by decide, by decide, by decide +kernel⟩, ki_X6_bad, ks_X6_bad⟩
theorem cfX6_bestOf : CFv yX6_bestOf cX6_bestOf 9 (some .int) 1 := ⟨⟨kc_X6_bestOf, kin_X6, by decide, by decide, by decide +kernel⟩, ki_X6_bestOf, ks_X6_bestOf⟩
theorem cfX6_bits : CFv yX6_bits cX6_bits 7 (some .int) 5 := ⟨⟨kc_X6_bits, kin_X6, by decide, by decide, by decide +kernel⟩, ki_X6_bits, ks_X6_bits⟩
theorem cfX6_blanks : CFv yX6_blanks cX6_blanks 1 none 0 := ⟨⟨kc_X6_blanks, kin_X6, by decide, by decide, by decide +kernel⟩, ki_X6_blanks, ks_X6_blanks⟩
theorem cfX6_cell : CFv yX6_cell cX6_cell 6 (some .int) 4 := ⟨⟨kc_X6_cell, kin_X6, by decide, by decide, by decide +kernel⟩, ki_X6_cell, ks_X6_cell⟩
theorem cfX6_cellPlace : CFs yX6_cellPlace cX6_cellPlace 3 (some .int) 3 := ⟨⟨kc_X6_cellPlace, kin_X6, by decide, by decide, by decide +kernel⟩, kst_X6_cellPlace⟩
theorem cfX6_clear : CFv yX6_clear cX6_clear 2 (some .int) 0 := ⟨⟨kc_X6_clear, kin_X6, by decide, by decide, by decide +kernel⟩, ki_X6_clear, ks_X6_clear⟩
theorem cfX6_clears : CFv yX6_clears cX6_clears 4 (some .int) 3 := ⟨⟨kc_X6_clears, kin_X6, by decide, by decide, by decide +kernel⟩, ki_X6_clears, ks_X6_clears⟩
theorem cfX6_digest : CFv yX6_digest cX6_digest 2 (some .long) 0 := ⟨⟨kc_X6_digest, kin_X6, by decide, by decide, by decide +kernel⟩, ki_X6_digest, ks_X6_digest⟩
theorem cfX6_does : CFv yX6_does cX6_does 3 (some .int) 0 := ⟨⟨kc_X6_does, kin_X6, by decide, by decide, by decide +kernel⟩, ki_X6_does, ks_X6_does⟩
theorem cfX6_doneOne : CFv yX6_doneOne cX6_doneOne 7 (some .int) 1 := ⟨⟨kc_X6_doneOne, kin_X6, by decide, by decide, by decide +kernel⟩, ki_X6_doneOne, ks_X6_doneOne⟩
theorem cfX6_downOf : CFv yX6_downOf cX6_downOf 2 (some .int) 1 := ⟨⟨kc_X6_downOf, kin_X6, by decide, by decide, by decide +kernel⟩, ki_X6_downOf, ks_X6_downOf⟩
theorem cfX6_echo : CFv yX6_echo cX6_echo 6 (some .int) 5 := ⟨⟨kc_X6_echo, kin_X6, by decide, by decide, by decide +kernel⟩, ki_X6_echo, ks_X6_echo⟩
theorem cfX6_echoParts : CFs yX6_echoParts cX6_echoParts 5 (some .int) 2 := ⟨⟨kc_X6_echoParts, kin_X6, by decide, by decide, by decide +kernel⟩, kst_X6_echoParts⟩
theorem cfX6_fails : CFv yX6_fails cX6_fails 2 (some .boolean) 1 := ⟨⟨kc_X6_fails, kin_X6, by decide, by decide, by decide +kernel⟩, ki_X6_fails, ks_X6_fails⟩
theorem cfX6_filledOf : CFv yX6_filledOf cX6_filledOf 5 (some .int) 3 := ⟨⟨kc_X6_filledOf, kin_X6, by decide, by decide, by decide +kernel⟩, ki_X6_filledOf, ks_X6_filledOf⟩
theorem cfX6_finished : CFv yX6_finished cX6_finished 2 (some .int) 1 := ⟨⟨kc_X6_finished, kin_X6, by decide, by decide, by decide +kernel⟩, ki_X6_finished, ks_X6_finished⟩
theorem cfX6_fullOnes : CFv yX6_fullOnes cX6_fullOnes 4 (some .int) 1 := ⟨⟨kc_X6_fullOnes, kin_X6, by decide, by decide, by decide +kernel⟩, ki_X6_fullOnes, ks_X6_fullOnes⟩
theorem cfX6_glow : CFv yX6_glow cX6_glow 4 (some .int) 3 := ⟨⟨kc_X6_glow, kin_X6, by decide, by decide, by decide +kernel⟩, ki_X6_glow, ks_X6_glow⟩
theorem cfX6_glowOf : CFv yX6_glowOf cX6_glowOf 2 (some .float) 1 := ⟨⟨kc_X6_glowOf, kin_X6, by decide, by decide, by decide +kernel⟩, ki_X6_glowOf, ks_X6_glowOf⟩
theorem cfX6_grid : CFv yX6_grid cX6_grid 3 (some .int) 2 := ⟨⟨kc_X6_grid, kin_X6, by decide, by decide, by decide +kernel⟩, ki_X6_grid, ks_X6_grid⟩
theorem cfX6_in : CFs yX6_in cX6_in 3 (some .boolean) 3 := ⟨⟨kc_X6_in, kin_X6, by decide, by decide, by decide +kernel⟩, kst_X6_in⟩
theorem cfX6_isAt : CFv yX6_isAt cX6_isAt 3 (some .boolean) 2 := ⟨⟨kc_X6_isAt, kin_X6, by decide, by decide, by decide +kernel⟩, ki_X6_isAt, ks_X6_isAt⟩
theorem cfX6_isBright : CFv yX6_isBright cX6_isBright 4 (some .boolean) 1 := ⟨⟨kc_X6_isBright, kin_X6, by decide, by decide, by decide +kernel⟩, ki_X6_isBright, ks_X6_isBright⟩
theorem cfX6_isCell : CFv yX6_isCell cX6_isCell 4 (some .boolean) 3 := ⟨⟨kc_X6_isCell, kin_X6, by decide, by decide, by decide +kernel⟩, ki_X6_isCell, ks_X6_isCell⟩
theorem cfX6_isDark : CFv yX6_isDark cX6_isDark 4 (some .boolean) 1 := ⟨⟨kc_X6_isDark, kin_X6, by decide, by decide, by decide +kernel⟩, ki_X6_isDark, ks_X6_isDark⟩
theorem cfX6_isRate : CFv yX6_isRate cX6_isRate 5 (some .boolean) 4 := ⟨⟨kc_X6_isRate, kin_X6, by decide, by decide, by decide +kernel⟩, ki_X6_isRate, ks_X6_isRate⟩
theorem cfX6_isRead : CFv yX6_isRead cX6_isRead 1 (some .boolean) 0 := ⟨⟨kc_X6_isRead, kin_X6, by decide, by decide, by decide +kernel⟩, ki_X6_isRead, ks_X6_isRead⟩
theorem cfX6_laysAside : CFv yX6_laysAside cX6_laysAside 2 none 0 := ⟨⟨kc_X6_laysAside, kin_X6, by decide, by decide, by decide +kernel⟩, ki_X6_laysAside, ks_X6_laysAside⟩
theorem cfX6_looksAt : CFv yX6_looksAt cX6_looksAt 4 none 1 := ⟨⟨kc_X6_looksAt, kin_X6, by decide, by decide, by decide +kernel⟩, ki_X6_looksAt, ks_X6_looksAt⟩
theorem cfX6_looksAtAll : CFv yX6_looksAtAll cX6_looksAtAll 4 none 1 := ⟨⟨kc_X6_looksAtAll, kin_X6, by decide, by decide, by decide +kernel⟩, ki_X6_looksAtAll, ks_X6_looksAtAll⟩
theorem cfX6_manyOf : CFs yX6_manyOf cX6_manyOf 1 (some .int) 1 := ⟨⟨kc_X6_manyOf, kin_X6, by decide, by decide, by decide +kernel⟩, kst_X6_manyOf⟩
theorem cfX6_mark : CFv yX6_mark cX6_mark 4 (some .int) 3 := ⟨⟨kc_X6_mark, kin_X6, by decide, by decide, by decide +kernel⟩, ki_X6_mark, ks_X6_mark⟩
theorem cfX6_marks : CFv yX6_marks cX6_marks 6 (some .int) 2 := ⟨⟨kc_X6_marks, kin_X6, by decide, by decide, by decide +kernel⟩, ki_X6_marks, ks_X6_marks⟩
theorem cfX6_maySet : CFs yX6_maySet cX6_maySet 2 (some .boolean) 2 := ⟨⟨kc_X6_maySet, kin_X6, by decide, by decide, by decide +kernel⟩, kst_X6_maySet⟩
theorem cfX6_mean : CFv yX6_mean cX6_mean 2 (some .long) 1 := ⟨⟨kc_X6_mean, kin_X6, by decide, by decide, by decide +kernel⟩, ki_X6_mean, ks_X6_mean⟩
theorem cfX6_meanOf : CFv yX6_meanOf cX6_meanOf 7 (some .long) 1 := ⟨⟨kc_X6_meanOf, kin_X6, by decide, by decide, by decide +kernel⟩, ki_X6_meanOf, ks_X6_meanOf⟩
theorem cfX6_mix : CFv yX6_mix cX6_mix 3 none 1 := ⟨⟨kc_X6_mix, kin_X6, by decide, by decide, by decide +kernel⟩, ki_X6_mix, ks_X6_mix⟩
theorem cfX6_mixCells : CFv yX6_mixCells cX6_mixCells 6 none 1 := ⟨⟨kc_X6_mixCells, kin_X6, by decide, by decide, by decide +kernel⟩, ki_X6_mixCells, ks_X6_mixCells⟩
theorem cfX6_motion : CFv yX6_motion cX6_motion 4 (some .int) 2 := ⟨⟨kc_X6_motion, kin_X6, by decide, by decide, by decide +kernel⟩, ki_X6_motion, ks_X6_motion⟩
theorem cfX6_motionOf : CFv yX6_motionOf cX6_motionOf 4 (some .int) 2 := ⟨⟨kc_X6_motionOf, kin_X6, by decide, by decide, by decide +kernel⟩, ki_X6_motionOf, ks_X6_motionOf⟩
theorem cfX6_moved : CFv yX6_moved cX6_moved 5 (some .int) 0 := ⟨⟨kc_X6_moved, kin_X6, by decide, by decide, by decide +kernel⟩, ki_X6_moved, ks_X6_moved⟩
theorem cfX6_no : CFv yX6_no cX6_no 1 (some .int) 0 := ⟨⟨kc_X6_no, kin_X6, by decide, by decide, by decide +kernel⟩, ki_X6_no, ks_X6_no⟩
theorem cfX6_of : CFv yX6_of cX6_of 7 (some .int) 5 := ⟨⟨kc_X6_of, kin_X6, by decide, by decide, by decide +kernel⟩, ki_X6_of, ks_X6_of⟩
theorem cfX6_phaseOf : CFv yX6_phaseOf cX6_phaseOf 3 (some .float) 1 := ⟨⟨kc_X6_phaseOf, kin_X6, by decide, by decide, by decide +kernel⟩, ki_X6_phaseOf, ks_X6_phaseOf⟩
theorem cfX6_putClear : CFv yX6_putClear cX6_putClear 7 (some .int) 3 := ⟨⟨kc_X6_putClear, kin_X6, by decide, by decide, by decide +kernel⟩, ki_X6_putClear, ks_X6_putClear⟩
theorem cfX6_putEcho : CFv yX6_putEcho cX6_putEcho 15 (some .int) 5 := ⟨⟨kc_X6_putEcho, kin_X6, by decide, by decide, by decide +kernel⟩, ki_X6_putEcho, ks_X6_putEcho⟩
theorem cfX6_putGrid : CFv yX6_putGrid cX6_putGrid 5 (some .int) 2 := ⟨⟨kc_X6_putGrid, kin_X6, by decide, by decide, by decide +kernel⟩, ki_X6_putGrid, ks_X6_putGrid⟩
theorem cfX6_putSample : CFv yX6_putSample cX6_putSample 4 (some .int) 2 := ⟨⟨kc_X6_putSample, kin_X6, by decide, by decide, by decide +kernel⟩, ki_X6_putSample, ks_X6_putSample⟩
theorem cfX6_putSetting : CFv yX6_putSetting cX6_putSetting 4 (some .int) 2 := ⟨⟨kc_X6_putSetting, kin_X6, by decide, by decide, by decide +kernel⟩, ki_X6_putSetting, ks_X6_putSetting⟩
theorem cfX6_putShine : CFv yX6_putShine cX6_putShine 8 (some .int) 4 := ⟨⟨kc_X6_putShine, kin_X6, by decide, by decide, by decide +kernel⟩, ki_X6_putShine, ks_X6_putShine⟩
theorem cfX6_putWave : CFv yX6_putWave cX6_putWave 4 (some .int) 2 := ⟨⟨kc_X6_putWave, kin_X6, by decide, by decide, by decide +kernel⟩, ki_X6_putWave, ks_X6_putWave⟩
theorem cfX6_raised : CFv yX6_raised cX6_raised 4 (some .int) 2 := ⟨⟨kc_X6_raised, kin_X6, by decide, by decide, by decide +kernel⟩, ki_X6_raised, ks_X6_raised⟩
theorem cfX6_raw : CFv yX6_raw cX6_raw 6 (some .int) 5 := ⟨⟨kc_X6_raw, kin_X6, by decide, by decide, by decide +kernel⟩, ki_X6_raw, ks_X6_raw⟩
theorem cfX6_refused : CFv yX6_refused cX6_refused 2 (some .int) 1 := ⟨⟨kc_X6_refused, kin_X6, by decide, by decide, by decide +kernel⟩, ki_X6_refused, ks_X6_refused⟩
theorem cfX6_refusedOf : CFv yX6_refusedOf cX6_refusedOf 2 (some .int) 1 := ⟨⟨kc_X6_refusedOf, kin_X6, by decide, by decide, by decide +kernel⟩, ki_X6_refusedOf, ks_X6_refusedOf⟩
theorem cfX6_remembers : CFv yX6_remembers cX6_remembers 2 none 0 := ⟨⟨kc_X6_remembers, kin_X6, by decide, by decide, by decide +kernel⟩, ki_X6_remembers, ks_X6_remembers⟩
theorem cfX6_residueOf : CFv yX6_residueOf cX6_residueOf 5 (some .int) 2 := ⟨⟨kc_X6_residueOf, kin_X6, by decide, by decide, by decide +kernel⟩, ki_X6_residueOf, ks_X6_residueOf⟩
theorem cfX6_sample : CFv yX6_sample cX6_sample 8 (some .int) 6 := ⟨⟨kc_X6_sample, kin_X6, by decide, by decide, by decide +kernel⟩, ki_X6_sample, ks_X6_sample⟩
theorem cfX6_sets : CFv yX6_sets cX6_sets 3 (some .int) 2 := ⟨⟨kc_X6_sets, kin_X6, by decide, by decide, by decide +kernel⟩, ki_X6_sets, ks_X6_sets⟩
theorem cfX6_shines : CFv yX6_shines cX6_shines 5 (some .int) 4 := ⟨⟨kc_X6_shines, kin_X6, by decide, by decide, by decide +kernel⟩, ki_X6_shines, ks_X6_shines⟩
theorem cfX6_size : CFs yX6_size cX6_size 1 (some .int) 1 := ⟨⟨kc_X6_size, kin_X6, by decide, by decide, by decide +kernel⟩, kst_X6_size⟩
theorem cfX6_strengthOf : CFv yX6_strengthOf cX6_strengthOf 2 (some .float) 1 := ⟨⟨kc_X6_strengthOf, kin_X6, by decide, by decide, by decide +kernel⟩, ki_X6_strengthOf, ks_X6_strengthOf⟩
theorem cfX6_sumOf : CFv yX6_sumOf cX6_sumOf 2 (some .int) 1 := ⟨⟨kc_X6_sumOf, kin_X6, by decide, by decide, by decide +kernel⟩, ki_X6_sumOf, ks_X6_sumOf⟩
theorem cfX6_takesNumber : CFv yX6_takesNumber cX6_takesNumber 4 (some .boolean) 1 := ⟨⟨kc_X6_takesNumber, kin_X6, by decide, by decide, by decide +kernel⟩, ki_X6_takesNumber, ks_X6_takesNumber⟩
theorem cfX6_takesOrder : CFv yX6_takesOrder cX6_takesOrder 4 (some .boolean) 0 := ⟨⟨kc_X6_takesOrder, kin_X6, by decide, by decide, by decide +kernel⟩, ki_X6_takesOrder, ks_X6_takesOrder⟩
theorem cfX6_told : CFv yX6_told cX6_told 2 (some .int) 1 := ⟨⟨kc_X6_told, kin_X6, by decide, by decide, by decide +kernel⟩, ki_X6_told, ks_X6_told⟩
theorem cfX6_type : CFv yX6_type cX6_type 2 (some .int) 1 := ⟨⟨kc_X6_type, kin_X6, by decide, by decide, by decide +kernel⟩, ki_X6_type, ks_X6_type⟩
theorem cfX6_wave : CFv yX6_wave cX6_wave 3 (some .int) 2 := ⟨⟨kc_X6_wave, kin_X6, by decide, by decide, by decide +kernel⟩, ki_X6_wave, ks_X6_wave⟩
theorem cfX6_weighs : CFv yX6_weighs cX6_weighs 7 none 4 := ⟨⟨kc_X6_weighs, kin_X6, by decide, by decide, by decide +kernel⟩, ki_X6_weighs, ks_X6_weighs⟩
theorem cfX6_widens : CFv yX6_widens cX6_widens 2 none 1 := ⟨⟨kc_X6_widens, kin_X6, by decide, by decide, by decide +kernel⟩, ki_X6_widens, ks_X6_widens⟩
theorem cfX6_wraps : CFv yX6_wraps cX6_wraps 5 (some .int) 4 := ⟨⟨kc_X6_wraps, kin_X6, by decide, by decide, by decide +kernel⟩, ki_X6_wraps, ks_X6_wraps⟩
