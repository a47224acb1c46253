theorem br_fold {r : Row} {c : Nat} {lim : Int32} : ∀ (k j t : Nat) (s : Int32), s = (if t = 0 then 0 else 1) →
    foldN (fun i (s : Int32) => if s = 0 then (if r (pos c + i) < lim then 0 else 1) else 1) k j s = (if foldN (fun i s => s + (if r (pos c + i) < lim then 0 else 1)) k j t = 0 then 0 else 1)
  | 0, _, _, _, h => h
  | k + 1, j, t, s, h => by
    refine br_fold k (j + 1) _ _ ?_
    subst h
    show (if (if t = 0 then (0 : Int32) else 1) = 0 then (if r (pos c + j) < lim then (0 : Int32) else 1) else 1) = if t + (if r (pos c + j) < lim then 0 else 1) = 0 then 0 else 1
    by_cases ht : t = 0
    · subst ht
      rw [if_pos (show (if (0 : Nat) = 0 then (0 : Int32) else 1) = 0 from rfl), Nat.zero_add]
      by_cases hr : r (pos c + j) < lim
      · rw [if_pos hr, if_pos hr]; rfl
      · rw [if_neg hr, if_neg hr]; rfl
    · rw [if_neg (show ¬ (if t = 0 then (0 : Int32) else 1) = 0 by rw [if_neg ht]; decide), if_neg (by omega)]
theorem m_bright {w : Wd} {c : Nat} (hc : c < 32) : f_X6_isBright (nI (pos c)) w = some (if brS (RM w) c then 1 else 0) := by
  unfold f_X6_isBright
  have := (loopF (fun n (s : Int32) i => f_X6_isBright_b4 (nI (pos c)) w n s i) (fun i (s : Int32) => if s = 0 then (if RM w (pos c + i) < RM w 7 then 0 else 1) else 1) (fun s => if zb s = true then some s else none) 12 (fun _ _ => True) (by omega)
    (fun m s _ => by
      show f_X6_isBright_b4 (nI (pos c)) w (m + 1) s (nI 12) = _
      rw [f_X6_isBright_b4, if_pos (by decide)])
    (fun m j s hj _ => ⟨trivial, by
      show f_X6_isBright_b4 (nI (pos c)) w (m + 1) s (nI j) = f_X6_isBright_b4 (nI (pos c)) w m _ (nI (j + 1))
      conv => lhs; rw [f_X6_isBright_b4]
      rw [if_neg (fun q => by have := (c_lle (by omega) (by omega)).mp q; omega)]
      unfold f_X6_isBright_b32 f_X6_isBright_b37
      simp only [nI_add, a_al]
      by_cases hs : s = 0
      · rw [if_pos hs, if_pos hs, if_pos (i_n (by unfold pos; omega) (by omega)), if_pos (i_l (by omega) (by omega)), n_cl (by unfold pos; omega), n_cll (by omega), RM_at (by unfold pos; omega), RM_at (by omega)]
        by_cases hr : RM w (pos c + j) < RM w 7
        · rw [if_pos hr, if_pos hr]
        · rw [if_neg hr, if_neg hr]
      · rw [if_neg hs, if_neg hs]⟩) 0 trivial).1
  rw [this, br_fold 12 0 0 0 rfl]
  unfold brS cntS
  by_cases h : foldN (fun i s => s + if RM w (pos c + i) < RM w 7 then 0 else 1) 12 0 0 = 0
  · rw [if_pos h, if_pos zb_0, h]; rfl
  · rw [if_neg h, if_pos zb_1, decide_eq_true (show 0 < foldN (fun i s => s + if RM w (pos c + i) < RM w 7 then 0 else 1) 12 0 0 by omega)]; rfl
theorem m_dark1 {w : Wd} {c k : Nat} (hc : c < 32) (hk : k < 3) (n : Nat) : f_X6_isDark_b4 (nI (pos c)) w (n + 1) 0 (nI k) = f_X6_isDark_b4 (nI (pos c)) w n (if dk1 (RM w) c k then 1 else 0) (nI (k + 1)) := by
  conv => lhs; rw [f_X6_isDark_b4]
  rw [if_neg (fun q => by have := (c_lle (by omega) (by omega)).mp q; omega), if_pos rfl]
  unfold f_X6_isDark_b46 f_X6_isDark_b51
  simp only [a_lm, nI_add, a_al]
  rw [m_S (by unfold pos; omega), bind_s, m_Str (by unfold pos; omega), bind_s]
  unfold dk1
  by_cases h : sS (RM w) (pos c + 4 * k) = 0
  · rw [if_pos h, if_pos (by simp [h])]
  · rw [if_neg h, if_pos (i_l (by omega) (by omega)), n_cll (by omega), RM_at (by omega)]
    by_cases h2 : 0 ≤ fcg (sStr (RM w) (pos c + 4 * k)) (FP.i2f (RM w 6))
    · rw [if_pos h2, if_neg (by simp [h, h2])]
    · rw [if_neg h2, if_pos (by simp [h2])]
theorem m_dark2 {w : Wd} {c k : Nat} (hk : k < 3) (n : Nat) : f_X6_isDark_b4 (nI (pos c)) w (n + 1) 1 (nI k) = f_X6_isDark_b4 (nI (pos c)) w n 1 (nI (k + 1)) := by
  conv => lhs; rw [f_X6_isDark_b4]
  rw [if_neg (fun q => by have := (c_lle (by omega) (by omega)).mp q; omega), if_neg (by decide)]
  unfold f_X6_isDark_b46 f_X6_isDark_b51
  rw [a_al]
theorem m_dark3 {w : Wd} {c : Nat} (s : Int32) (n : Nat) : f_X6_isDark_b4 (nI (pos c)) w (n + 1) s (nI 3) = (if zb s = true then some s else none) := by
  rw [f_X6_isDark_b4, if_pos (by decide)]
theorem m_dark {w : Wd} {c : Nat} (hc : c < 32) : f_X6_isDark (nI (pos c)) w = some (if dkS (RM w) c then 1 else 0) := by
  unfold f_X6_isDark dkS
  rw [FUEL4]
  show f_X6_isDark_b4 (nI (pos c)) w _ 0 (nI 0) = _
  rw [m_dark1 hc (by omega)]
  by_cases h0 : dk1 (RM w) c 0 = true
  · rw [if_pos h0, m_dark2 (by omega), m_dark2 (by omega), m_dark3, h0]; rfl
  · rw [if_neg h0, m_dark1 hc (by omega)]
    by_cases h1 : dk1 (RM w) c 1 = true
    · rw [if_pos h1, m_dark2 (by omega), m_dark3, h1]; simp [zb_1]
    · rw [if_neg h1, m_dark1 hc (by omega), m_dark3]
      by_cases h2 : dk1 (RM w) c 2 = true
      · rw [if_pos h2, h2]; simp [zb_1]
      · rw [if_neg h2, if_pos zb_0]; simp [h0, h1, h2]
theorem m_widens {w : Wd} {a b o : Option Nat} (h9 : w.1 0 9 = enc a) (h10 : w.1 0 10 = enc b) (ha : ∀ n, a = some n → n < 2 ^ 31) (hb : ∀ n, b = some n → n < 2 ^ 31) (ho : ∀ n, o = some n → n < 2 ^ 31) :
    f_X6_widens (enc o) w = some (wset (wset w 0 9 (enc (omin a o))) 0 10 (enc (omax b o))) := by
  unfold f_X6_widens f_X6_widens_b30 f_X6_widens_b26 f_X6_widens_b34 f_X6_widens_b67 f_X6_widens_b63 f_X6_widens_b71
  simp only [wput_eq, ws_k (c := 0) (k := 9) (c' := 0) (k' := 10) _ _ (by decide), h9, h10]
  cases o with
  | none =>
    rw [if_pos (show enc none = -10001 from rfl), if_pos (show enc none = -10001 from rfl)]
    cases a <;> cases b <;> rfl
  | some d =>
    have hd := ho d rfl
    have e : ∀ q, ¬ enc (some q) = -10001 ∨ ¬ q < 2 ^ 31 := fun q => by
      by_cases hq : q < 2 ^ 31
      · exact Or.inl (enc_none hq)
      · exact Or.inr hq
    have ed : ¬ enc (some d) = -10001 := enc_none hd
    rw [if_neg ed]
    simp only [if_neg ed]
    cases a with
    | none =>
      rw [if_pos (show enc none = -10001 from rfl)]
      cases b with
      | none => rw [if_pos (show enc none = -10001 from rfl)]; rfl
      | some b =>
        have hb' := hb b rfl
        rw [if_neg (show ¬ enc (some b) = -10001 from enc_none hb')]
        show (if nI d ≤ nI b then _ else _) = some (wset (wset w 0 9 (enc (some d))) 0 10 (enc (some (if b < d then d else b))))
        by_cases q : b < d
        · rw [if_neg (fun z => by have := (c_le hd hb').mp z; omega), if_pos q]
        · rw [if_pos ((c_le hd hb').mpr (by omega)), if_neg q]
    | some a =>
      have ha' := ha a rfl
      rw [if_neg (show ¬ enc (some a) = -10001 from enc_none ha')]
      have key : ∀ x : Int32, (if enc b = -10001 then some (wset (wset w 0 9 x) 0 10 (enc (some d))) else if enc (some d) ≤ enc b then some (wset (wset w 0 9 x) 0 10 (enc b)) else some (wset (wset w 0 9 x) 0 10 (enc (some d)))) = some (wset (wset w 0 9 x) 0 10 (enc (omax b (some d)))) := by
        intro x
        cases b with
        | none => rw [if_pos (show enc none = -10001 from rfl)]; rfl
        | some b =>
          have hb' := hb b rfl
          rw [if_neg (show ¬ enc (some b) = -10001 from enc_none hb')]
          show (if nI d ≤ nI b then _ else _) = some (wset (wset w 0 9 x) 0 10 (enc (some (if b < d then d else b))))
          by_cases q : b < d
          · rw [if_neg (fun z => by have := (c_le hd hb').mp z; omega), if_pos q]
          · rw [if_pos ((c_le hd hb').mpr (by omega)), if_neg q]
      rw [key, key]
      show (if nI a ≤ nI d then _ else _) = some (wset (wset w 0 9 (enc (some (if d < a then d else a)))) 0 10 (enc (omax b (some d))))
      by_cases q : d < a
      · rw [if_neg (fun z => by have := (c_le ha' hd).mp z; omega), if_pos q]
      · rw [if_pos ((c_le ha' hd).mpr (by omega)), if_neg q]
