/-! THE TEXT READ: both sides, from blank to blank -/
def TM (v : Wd) (n : Nat) (b : Nat → Nat) : Prop := n ≤ 150 ∧ v.1 0 6 = nI n ∧ ∀ k, k < n → v.1 5 k = nI (b k) ∧ b k ≤ 127
def MF (v0 v : Wd) : Prop := (∀ a, a ≠ 0 → a ≠ 11 → a ≠ 12 → v.1 a = v0.1 a) ∧ (∀ k, k ≠ 23 → k ≠ 24 → k ≠ 25 → v.1 0 k = v0.1 0 k) ∧ v.2 = v0.2
theorem MF.rf (v : Wd) : MF v v := ⟨fun _ _ _ _ => rfl, fun _ _ _ _ => rfl, rfl⟩
theorem MF.tr {a b c : Wd} (h1 : MF a b) (h2 : MF b c) : MF a c := ⟨fun k p q r => (h2.1 k p q r).trans (h1.1 k p q r), fun k p q r => (h2.2.1 k p q r).trans (h1.2.1 k p q r), h2.2.2.trans h1.2.2⟩
theorem MF.s0 {w v : Wd} (h : MF w v) {k : Nat} (x : Int32) (hk : k = 23 ∨ k = 24 ∨ k = 25) : MF w (wset v 0 k x) := ⟨fun a p q r => by rw [ws_c _ _ p]; exact h.1 a p q r, fun j p q r => by rw [ws_k _ _ (by omega)]; exact h.2.1 j p q r, h.2.2⟩
theorem MF.s11 {w v : Wd} (h : MF w v) {c : Nat} (k : Nat) (x : Int32) (hc : c = 11 ∨ c = 12) : MF w (wset v c k x) := ⟨fun a p q r => by rw [ws_c _ _ (by omega)]; exact h.1 a p q r, fun j p q r => by rw [ws_c _ _ (by omega)]; exact h.2.1 j p q r, h.2.2⟩
theorem TM_MF {v v' : Wd} {n : Nat} {b : Nat → Nat} (h : TM v n b) (hf : MF v v') : TM v' n b := ⟨h.1, by rw [hf.2.1 6 (by decide) (by decide) (by decide)]; exact h.2.1, fun k hk => by rw [hf.1 5 (by decide) (by decide) (by decide)]; exact h.2.2 k hk⟩
theorem m_isAt {v : Wd} {n : Nat} {b : Nat → Nat} (h : TM v n b) {s lo hi : Nat} (hs : s ≤ n) (h24 : v.1 0 24 = nI s) (hlo : (OfNat.ofNat lo : Nat) < 2 ^ 31) (hhi : (OfNat.ofNat hi : Nat) < 2 ^ 31) : f_X6_isAt (OfNat.ofNat lo) (OfNat.ofNat hi) v = some (if s < n ∧ (OfNat.ofNat lo : Nat) ≤ b s ∧ b s ≤ (OfNat.ofNat hi : Nat) then 1 else 0) := by
  have h1 := h.1
  unfold f_X6_isAt f_X6_isAt_b32 f_X6_isAt_b33
  rw [h.2.1, h24]
  by_cases hsn : s < n
  · have hb := h.2.2 s hsn
    rw [if_neg (fun q => by have := (c_le (by omega) (by omega)).mp q; omega), if_pos (i_n (by omega) (by omega)), n_cl (by omega), hb.1]
    by_cases hr : (OfNat.ofNat lo : Nat) ≤ b s ∧ b s ≤ (OfNat.ofNat hi : Nat)
    · have e : (if s < n ∧ (OfNat.ofNat lo : Nat) ≤ b s ∧ b s ≤ (OfNat.ofNat hi : Nat) then (1 : Int32) else 0) = 1 := if_pos ⟨hsn, hr⟩
      rw [e, in_t ((c_lle hlo (by omega)).mpr hr.1) ((c_lel hhi (by omega)).mpr hr.2), bind_s, if_neg one0]
      rfl
    · have e : (if s < n ∧ (OfNat.ofNat lo : Nat) ≤ b s ∧ b s ≤ (OfNat.ofNat hi : Nat) then (1 : Int32) else 0) = 0 := if_neg (fun q => hr q.2)
      rw [e, in_f (fun q => hr ⟨(c_lle hlo (by omega)).mp q.1, (c_lel hhi (by omega)).mp q.2⟩), bind_s, if_pos rfl]
      rfl
  · have e : (if s < n ∧ (OfNat.ofNat lo : Nat) ≤ b s ∧ b s ≤ (OfNat.ofNat hi : Nat) then (1 : Int32) else 0) = 0 := if_neg (fun q => hsn q.1)
    rw [e, if_pos ((c_le (by omega) (by omega)).mpr (by omega))]
    rfl
theorem m_blanks0 {n : Nat} {b : Nat → Nat} : ∀ (j s f : Nat) (v : Wd), TM v n b → s + j = n → j < f → v.1 0 24 = nI s → ∃ s', s ≤ s' ∧ s' ≤ n ∧ f_X6_blanks_b0 f v = some (wset v 0 24 (nI s')) ∧ (∀ k, s ≤ k → k < s' → b k = 32) ∧ (s' < n → b s' ≠ 32) := by
  intro j
  induction j with
  | zero =>
    intro s f v h hj hf h24
    obtain ⟨f, rfl⟩ : ∃ g, f = g + 1 := ⟨f - 1, by omega⟩
    refine ⟨s, Nat.le_refl _, by omega, ?_, fun k h1 h2 => by omega, fun q => by omega⟩
    rw [f_X6_blanks_b0, m_isAt h (by omega) h24 (by decide) (by decide), if_neg (fun q => by omega), bind_s, if_pos rfl, ← h24, ws_id]
  | succ j ih =>
    intro s f v h hj hf h24
    obtain ⟨f, rfl⟩ : ∃ g, f = g + 1 := ⟨f - 1, by omega⟩
    by_cases hb : b s = 32
    · obtain ⟨s', a1, a2, a3, a4, a5⟩ := ih (s + 1) f (wset v 0 24 (nI (s + 1))) (TM_MF h ((MF.rf v).s0 _ (by omega))) (by omega) (by omega) (ws_same _ _ _ _)
      refine ⟨s', by omega, a2, ?_, fun k h1 h2 => ?_, a5⟩
      · rw [f_X6_blanks_b0, m_isAt h (by omega) h24 (by decide) (by decide), if_pos ⟨by omega, by rw [hb]; exact Nat.le_refl _, by rw [hb]; exact Nat.le_refl _⟩, bind_s, if_neg one0, wput_eq, h24, a_al, a3, ws_ws]
      · by_cases hk : k = s
        · rw [hk]; exact hb
        · exact a4 k (by omega) h2
    · refine ⟨s, Nat.le_refl _, by omega, ?_, fun k h1 h2 => by omega, fun _ => hb⟩
      rw [f_X6_blanks_b0, m_isAt h (by omega) h24 (by decide) (by decide), if_neg (fun q => hb (Nat.le_antisymm q.2.2 q.2.1)), bind_s, if_pos rfl, ← h24, ws_id]
theorem m_blanks {n : Nat} {b : Nat → Nat} {s : Nat} {v : Wd} (h : TM v n b) (hs : s ≤ n) (h24 : v.1 0 24 = nI s) : ∃ s', s ≤ s' ∧ s' ≤ n ∧ f_X6_blanks v = some (wset v 0 24 (nI s')) ∧ (∀ k, s ≤ k → k < s' → b k = 32) ∧ (s' < n → b s' ≠ 32) := m_blanks0 (n - s) s FUEL v h (by omega) (by have := h.1; unfold FUEL; omega) h24
theorem c_blanks {n : Nat} {b : Nat → Nat} : ∀ (j s : Nat) (w : Wd) (due : Int32) (ord N : Nat) (it : Nat → Int32) (fig : Nat), TC w n b → s + j ≤ n → N ≤ 150 → PS w due ord N it fig → (∀ k, s ≤ k → k < s + j → b k = 32) → ∃ (w' : Wd) (fig' : Nat), RA w s = RA w' (s + j) ∧ PS w' due ord N it fig' ∧ CF w w' ∧ (j = 0 → fig' = fig) ∧ (0 < j → fig' = 0) := by
  intro j
  induction j with
  | zero =>
    intro s w due ord N it fig h hj hN hp hb
    exact ⟨w, fig, rfl, hp, CF.rf w, fun _ => rfl, fun q => by omega⟩
  | succ j ih =>
    intro s w due ord N it fig h hj hN hp hb
    have hb0 := hb s (Nat.le_refl _) (by omega)
    obtain ⟨w1, a1, a2, a3⟩ := t_blank hp hN
    obtain ⟨w2, f2, b1, b2, b3, b4, b5⟩ := ih (s + 1) w1 due ord N it 0 (TC_CF h a3) (by omega) hN a2 (fun k h1 h2 => hb k (by omega) (by omega))
    refine ⟨w2, f2, ?_, b2, a3.tr b3, fun q => by omega, fun _ => ?_⟩
    · rw [RA_step h (by omega), hb0, a1, bind_s, if_neg one0]
      dsimp only
      rw [b1, show s + 1 + j = s + (j + 1) by omega]
    · rcases Nat.eq_zero_or_pos j with z | z
      · exact b4 z
      · exact b5 z
/-- how both sides stand after a part of an order: well, or at the same fault -/
def Flt (w v : Wd) (n : Nat) (c : Option (Int32 × Wd)) (m : Option (Int32 × Wd)) : Prop := ∃ (p : Nat) (w1 v1 : Wd), p ≤ n ∧ c = some (nI p, w1) ∧ CF w w1 ∧ m = some (0, v1) ∧ v1.1 0 25 = nI p ∧ MF v v1
theorem m_fails (p : Nat) (v : Wd) : f_X6_fails (nI p) v = some (0, wset v 0 25 (nI p)) := rfl
theorem dig_b {n : Nat} {b : Nat → Nat} : ∀ (j s f : Nat) (w v : Wd) (m ord N : Nat) (it : Nat → Int32) (start x : Nat) (to : Nat), TC w n b → TM v n b → s + j = n → j < f → start < s → s ≤ start + 4 → N + 1 ≤ 150 → m ≤ 10 → to < 375 → v.1 0 24 = nI s → PS w (nI m) ord (N + 1) it (s - start) → it N = nI x →
    Flt w v n (RA w s) (f_X6_takesNumber_b11 (nI to) (nI start) f (nI x) v) ∨ ∃ (s1 x1 f1 : Nat) (w1 : Wd), s ≤ s1 ∧ s1 ≤ n ∧ RA w s = RA w1 s1 ∧ CF w w1 ∧ PS w1 (nI m) ord (N + 1) (ins it N (nI x1)) f1 ∧ 0 < f1 ∧ (s1 < n → ¬ (48 ≤ b s1 ∧ b s1 ≤ 57)) ∧ f_X6_takesNumber_b11 (nI to) (nI start) f (nI x) v = some (1, wset (wset v 0 24 (nI s1)) 12 to (nI x1)) := by
  intro j
  induction j with
  | zero =>
    intro s f w v m ord N it start x to hc hm hj hf hst hs4 hN hm10 hto h24 hp hx
    obtain ⟨f, rfl⟩ : ∃ g, f = g + 1 := ⟨f - 1, by omega⟩
    refine .inr ⟨s, x, s - start, w, Nat.le_refl _, by omega, rfl, CF.rf w, ?_, by omega, fun q => by omega, ?_⟩
    · have : ins it N (nI x) = it := by
        funext k
        by_cases hk : k = N
        · rw [hk, ins_s, hx]
        · rw [ins_n _ _ hk]
      rw [this]; exact hp
    · have hn := hm.1
      rw [f_X6_takesNumber_b11, m_isAt hm (by omega) h24 (by decide) (by decide), if_neg (fun q => by omega), bind_s, if_pos rfl, if_pos (i_n hto (by omega)), n_cl (by omega), wput_eq, ws_c _ _ (by decide), h24, if_pos ((c_lt (by omega) (by omega)).mpr hst)]
      have : wset v 0 24 (nI s) = v := by rw [← h24, ws_id]
      rw [this]
      rfl
  | succ j ih =>
    intro s f w v m ord N it start x to hc hm hj hf hst hs4 hN hm10 hto h24 hp hx
    obtain ⟨f, rfl⟩ : ∃ g, f = g + 1 := ⟨f - 1, by omega⟩
    have hn := hm.1
    by_cases hd : 48 ≤ b s ∧ b s ≤ 57
    · by_cases h4 : s = start + 4
      · left
        have hp4 : PS w (nI m) ord (N + 1) it 4 := by rw [show s - start = 4 by omega] at hp; exact hp
        refine ⟨s, w, wset v 0 25 (nI s), by omega, ?_, CF.rf w, ?_, ws_same _ _ _ _, (MF.rf v).s0 _ (by omega)⟩
        · rw [RA_step hc (by omega), dg_t hd.1 hd.2, t_fig4 hp4, bind_s, if_pos rfl]
        · rw [f_X6_takesNumber_b11, m_isAt hm (by omega) h24 (by decide) (by decide), if_pos ⟨by omega, hd⟩, bind_s, if_neg one0, h24, a_al, if_pos (by rw [h4]), m_fails, bind_s]
          rfl
      · obtain ⟨w1, a1, a2, a3⟩ := t_fig1 (d := b s - 48) hp (by omega) (by omega) hx
        have hfg : s - start + 1 = s + 1 - start := by omega
        rw [hfg] at a2
        have r := ih (s + 1) f w1 (wset v 0 24 (nI (s + 1))) m ord N (ins it N (nI (10 * x + (b s - 48)))) start (10 * x + (b s - 48)) to (TC_CF hc a3) (TM_MF hm ((MF.rf v).s0 _ (by omega))) (by omega) (by omega) (by omega) (by omega) hN hm10 hto (ws_same _ _ _ _) a2 (ins_s _ _ _)
        have eC : RA w s = RA w1 (s + 1) := by rw [RA_step hc (by omega), dg_t hd.1 hd.2, a1, bind_s, if_neg one0]
        have eM : f_X6_takesNumber_b11 (nI to) (nI start) (f + 1) (nI x) v = f_X6_takesNumber_b11 (nI to) (nI start) f (nI (10 * x + (b s - 48))) (wset v 0 24 (nI (s + 1))) := by
          rw [f_X6_takesNumber_b11, m_isAt hm (by omega) h24 (by decide) (by decide), if_pos ⟨by omega, hd⟩, bind_s, if_neg one0, h24, a_al, if_neg (fun q => h4 ((c_eq (by omega) (by omega)).mp q)), if_pos (i_n (by omega) (by omega)), n_cl (by omega), (hm.2.2 s (by omega)).1, jlet_eq, a_lm, nI_add, a_sl (by show 48 ≤ _; omega), wput_eq, a_al, show 10 * x + b s - 48 = 10 * x + (b s - 48) by omega]
        rw [eC, eM]
        rcases r with ⟨p, w2, v2, q1, q2, q3, q4, q5, q6⟩ | ⟨s1, x1, f1, w2, q1, q2, q3, q4, q5, q6, q7, q8⟩
        · exact .inl ⟨p, w2, v2, q1, q2, a3.tr q3, q4, q5, ((MF.rf v).s0 _ (by omega)).tr q6⟩
        · refine .inr ⟨s1, x1, f1, w2, by omega, q2, q3, a3.tr q4, by rw [ins_ins] at q5; exact q5, q6, q7, ?_⟩
          rw [q8, ws_ws]
    · refine .inr ⟨s, x, s - start, w, Nat.le_refl _, by omega, rfl, CF.rf w, ?_, by omega, fun _ => hd, ?_⟩
      · have : ins it N (nI x) = it := by
          funext k
          by_cases hk : k = N
          · rw [hk, ins_s, hx]
          · rw [ins_n _ _ hk]
        rw [this]; exact hp
      · rw [f_X6_takesNumber_b11, m_isAt hm (by omega) h24 (by decide) (by decide), if_neg (fun q => hd q.2), bind_s, if_pos rfl, if_pos (i_n hto (by omega)), n_cl (by omega), wput_eq, ws_c _ _ (by decide), h24, if_pos ((c_lt (by omega) (by omega)).mpr hst)]
        have : wset v 0 24 (nI s) = v := by rw [← h24, ws_id]
        rw [this]
        rfl
