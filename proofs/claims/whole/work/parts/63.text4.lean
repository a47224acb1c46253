/-! THE TEXT READ: orders and all of it -/
def OR (v : Wd) (ord N : Nat) (it : Nat → Int32) (pt : Nat → Nat) : Prop := pt 0 = 0 ∧ pt ord = N ∧ ∀ j, j < ord → pt j < pt (j + 1) ∧ ∃ M x : Nat, 2 ≤ M ∧ M ≤ 5 ∧ pt (j + 1) = pt j + 1 + M ∧ it (pt j) = nI x ∧ v.1 11 j = nI x ∧ x ≤ 127 ∧ f_X1_numbersOf (nI x) = some (nI M) ∧ ∀ i, i < M → it (pt j + 1 + i) = v.1 12 (5 * j + i)
theorem OR_mono {v : Wd} {ord N : Nat} {it : Nat → Int32} {pt : Nat → Nat} (h : OR v ord N it pt) : ∀ d j, j + d = ord → pt j ≤ N := by
  intro d
  induction d with
  | zero => intro j hj; rw [show j = ord by omega, h.2.1]; exact Nat.le_refl _
  | succ d ih =>
    intro j hj
    have h1 := ih (j + 1) (by omega)
    have h2 := (h.2.2 j (by omega)).1
    omega
theorem ord_b {n : Nat} {b : Nat → Nat} {w v : Wd} {ord N s : Nat} {it : Nat → Int32} {pt : Nat → Nat} (hc : TC w n b) (hm : TM v n b) (hs : s < n) (hb : b s ≠ 32) (hN : N ≤ s) (ho : 2 * ord ≤ s) (h24 : v.1 0 24 = nI s) (h23 : v.1 0 23 = nI ord) (hp : PS w (-1) ord N it 0) (hO : OR v ord N it pt) :
    Flt w v n (RA w s) (f_X6_takesOrder v) ∨ ∃ (s1 N1 : Nat) (w1 v1 : Wd) (it1 : Nat → Int32) (pt1 : Nat → Nat), s + 2 ≤ s1 ∧ s1 ≤ n ∧ RA w s = RA w1 s1 ∧ CF w w1 ∧ PS w1 (-1) (ord + 1) N1 it1 0 ∧ N1 ≤ s1 ∧ f_X6_takesOrder v = some (1, v1) ∧ MF v v1 ∧ v1.1 0 24 = nI s1 ∧ v1.1 0 23 = nI (ord + 1) ∧ OR v1 (ord + 1) N1 it1 pt1 := by
  have hn := hc.1
  have hbs := hm.2.2 s hs
  unfold f_X6_takesOrder
  rw [h24, if_pos (i_n (by omega) (by omega)), n_cl (by omega), hbs.1, jlet_eq]
  rcases t_out (x := b s) hp (by omega) hbs.2 hb with ⟨M, m1, m2, e1, e2, w1, c1, c2, c3⟩ | ⟨e2, w1, c1, c2⟩
  · have hMne : ¬ nI M = (-10001 : Int32) := enc_none (by omega)
    rw [e2, bind_s, if_neg hMne, h23, if_pos (i_n (by omega) (by omega)), n_cl (by omega)]
    simp only [wput_eq]
    rw [ws_c (c := 11) _ _ (by decide), h24, a_al]
    obtain ⟨v2, hv2⟩ : ∃ v2, v2 = wset (wset v 11 ord (nI (b s))) 0 24 (nI (s + 1)) := ⟨_, rfl⟩
    rw [← hv2]
    have hMF : MF v v2 := by rw [hv2]; exact ((MF.rf v).s11 _ _ (by omega)).s0 _ (by omega)
    have eC : RA w s = RA w1 (s + 1) := by rw [RA_step hc hs, c1, bind_s, if_neg one0]
    rw [eC]
    rcases nums_b (M := M) (ord := ord) m2 (by omega) M 0 FUEL w1 v2 (N + 1) 0 (s + 1) (ins it N (nI (b s))) (TC_CF hc c3) (TM_MF hm hMF) (by omega) (by unfold FUEL; omega) (by omega) (by omega) (by rw [hv2, ws_same]) (by rw [hv2, ws_k _ _ (by decide), ws_c _ _ (by decide)]; exact h23) c2 (fun q => by omega) with ⟨p, w3, v3, q1, q2, q3, q4, q5, q6⟩ | ⟨s1, w3, v3, it3, q1, q2, q3, q4, q5, q6, q7, q8, q9, q10, q11, q12, q13, q14⟩
    · exact .inl ⟨p, w3, v3, q1, q2, c3.tr q3, q4, q5, hMF.tr q6⟩
    · have hpt := hO.2.1
      refine .inr ⟨s1, N + 1 + M, w3, v3, it3, (fun j => if j = ord + 1 then N + 1 + M else pt j), by omega, q2, q3, c3.tr q4, q5, q6, q7, hMF.tr q8, q9, q10, ?_, ?_, fun j hj => ?_⟩
      · show (if 0 = ord + 1 then _ else pt 0) = 0
        rw [if_neg (by omega)]; exact hO.1
      · show (if ord + 1 = ord + 1 then _ else _) = _
        rw [if_pos rfl]
      · show (if j = ord + 1 then _ else pt j) < (if j + 1 = ord + 1 then _ else pt (j + 1)) ∧ _
        rw [if_neg (by omega)]
        by_cases hjo : j = ord
        · subst hjo
          rw [if_pos rfl, hpt]
          refine ⟨by omega, M, b s, m1, m2, ?_, ?_, ?_, hbs.2, e1, fun i hi => ?_⟩
          · show (if j + 1 = j + 1 then N + 1 + M else pt (j + 1)) = (if j = j + 1 then N + 1 + M else pt j) + 1 + M
            rw [if_pos rfl, if_neg (by omega), hpt]
          · show it3 (if j = j + 1 then N + 1 + M else pt j) = _
            rw [if_neg (by omega), hpt, q12 N (by omega), ins_s]
          · rw [q11, hv2, ws_c _ _ (by decide), ws_same]
          · show it3 ((if j = j + 1 then N + 1 + M else pt j) + 1 + i) = _
            rw [if_neg (by omega), hpt]
            have := q13 i hi
            rw [Nat.zero_add] at this
            exact this
        · rw [if_neg (by omega)]
          obtain ⟨g1, M', x', g2, g3, g4, g5, g6, g7, g8, g9⟩ := hO.2.2 j (by omega)
          have hle := OR_mono hO (ord - (j + 1)) (j + 1) (by omega)
          refine ⟨g1, M', x', g2, g3, ?_, ?_, ?_, g7, g8, fun i hi => ?_⟩
          · show (if j + 1 = ord + 1 then N + 1 + M else pt (j + 1)) = (if j = ord + 1 then N + 1 + M else pt j) + 1 + M'
            rw [if_neg (by omega), if_neg (by omega)]; exact g4
          · show it3 (if j = ord + 1 then N + 1 + M else pt j) = _
            rw [if_neg (by omega), q12 _ (by omega), ins_n _ _ (by omega)]; exact g5
          · rw [q11, hv2, ws_c _ _ (by decide), ws_k _ _ (by omega)]; exact g6
          · show it3 ((if j = ord + 1 then N + 1 + M else pt j) + 1 + i) = _
            rw [if_neg (by omega), q12 _ (by omega), ins_n _ _ (by omega), q14 _ (by omega), hv2, ws_c _ _ (by decide), ws_c _ _ (by decide)]
            exact g9 i hi
  · rw [e2, bind_s, if_pos rfl, m_fails, bind_s]
    left
    refine ⟨s, w1, _, by omega, ?_, c2, rfl, ws_same _ _ _ _, (MF.rf v).s0 _ (by omega)⟩
    rw [RA_step hc hs, c1, bind_s, if_pos rfl]
/-- the reading of all: the same fault, or the same orders -/
def Rd (w v : Wd) (n : Nat) (c m : Option (Int32 × Wd)) : Prop := Flt w v n c m ∨ ∃ (ord N : Nat) (w1 v1 : Wd) (it : Nat → Int32) (pt : Nat → Nat), ord ≤ 75 ∧ 0 < ord ∧ N ≤ 150 ∧ c = some (-1, w1) ∧ CF w w1 ∧ PS w1 (-1) ord N it 0 ∧ m = some (1, v1) ∧ MF v v1 ∧ v1.1 0 23 = nI ord ∧ OR v1 ord N it pt
theorem read_b {n : Nat} {b : Nat → Nat} : ∀ (j s f : Nat) (w v : Wd) (ord N : Nat) (it : Nat → Int32) (pt : Nat → Nat), TC w n b → TM v n b → s + j = n → j < f → (s < n → b s ≠ 32) → N ≤ s → 2 * ord ≤ s → v.1 0 24 = nI s → v.1 0 23 = nI ord → PS w (-1) ord N it 0 → OR v ord N it pt → Rd w v n (RA w s) (f_X6_isRead_b14 f v) := by
  intro j
  induction j using Nat.strongRecOn with
  | ind j ih =>
    intro s f w v ord N it pt hc hm hj hf hb hN ho h24 h23 hp hO
    obtain ⟨f, rfl⟩ : ∃ g, f = g + 1 := ⟨f - 1, by omega⟩
    have hn := hc.1
    by_cases hs : s = n
    · subst hs
      rw [RA_end hc, f_X6_isRead_b14, hm.2.1, h24, if_pos (Int32.le_refl _), h23]
      unfold f_X1_readAll_b58 f_X1_readAll_b77 f_X1_readAll_b81 f_X6_isRead_b59 f_X6_isRead_b64
      rw [hp.1, if_pos rfl, hp.2.1]
      by_cases h0 : ord = 0
      · rw [if_pos ((c_le0 (by omega)).mpr (by omega)), if_neg (fun q => by have := (c_lt0 (by omega)).mp q; omega), m_fails, bind_s, if_pos rfl, hc.2.1]
        exact .inl ⟨s, w, _, Nat.le_refl _, rfl, CF.rf w, rfl, ws_same _ _ _ _, (MF.rf v).s0 _ (by omega)⟩
      · rw [if_neg (fun q => by have := (c_le0 (by omega)).mp q; omega), if_pos ((c_lt0 (by omega)).mpr (by omega))]
        exact .inr ⟨ord, N, w, v, it, pt, by omega, by omega, by omega, rfl, CF.rf w, hp, rfl, MF.rf v, h23, hO⟩
    · rw [f_X6_isRead_b14, hm.2.1, h24, if_neg (fun q => by have := (c_le (by omega) (by omega)).mp q; omega)]
      rcases ord_b hc hm (by omega) (hb (by omega)) hN ho h24 h23 hp hO with ⟨p, w1, v1, q1, q2, q3, q4, q5, q6⟩ | ⟨s1, N1, w1, v1, it1, pt1, q1, q2, q3, q4, q5, q6, q7, q8, q9, q10, q11⟩
      · rw [q4, bind_s, if_pos rfl]
        exact .inl ⟨p, w1, v1, q1, q2, q3, rfl, q5, q6⟩
      · obtain ⟨s2, a1, a2, a3, a4, a5⟩ := m_blanks (TM_MF hm q8) q2 q9
        obtain ⟨w2, f2, b1, b2, b3, b4, b5⟩ := c_blanks (s2 - s1) s1 w1 (-1) (ord + 1) N1 it1 0 (TC_CF hc q4) (by omega) (by omega) q5 (fun k h1 h2 => a4 k h1 (by omega))
        rw [show s1 + (s2 - s1) = s2 by omega] at b1
        have hf2 : f2 = 0 := by
          rcases Nat.eq_zero_or_pos (s2 - s1) with z | z
          · exact b4 z
          · exact b5 z
        rw [hf2] at b2
        rw [q7, bind_s, if_neg one0]
        dsimp only
        rw [a3, bind_s, q3, b1]
        have hO2 : OR (wset v1 0 24 (nI s2)) (ord + 1) N1 it1 pt1 := by
          refine ⟨q11.1, q11.2.1, fun j hj => ?_⟩
          rw [ws_c _ _ (by decide), ws_c (c' := 12) _ _ (by decide)]
          exact q11.2.2 j hj
        have hMF2 : MF v (wset v1 0 24 (nI s2)) := q8.s0 _ (by omega)
        have r := ih (n - s2) (by omega) s2 f w2 (wset v1 0 24 (nI s2)) (ord + 1) N1 it1 pt1 (TC_CF hc (q4.tr b3)) (TM_MF hm hMF2) (by omega) (by omega) a5 (by omega) (by omega) (ws_same _ _ _ _) (by rw [ws_k _ _ (by decide)]; exact q10) b2 hO2
        rcases r with ⟨p, w3, v3, r1, r2, r3, r4, r5, r6⟩ | ⟨o3, N3, w3, v3, it3, pt3, r1, r2, r3, r4, r5, r6, r7, r8, r9, r10⟩
        · exact .inl ⟨p, w3, v3, r1, r2, (q4.tr b3).tr r3, r4, r5, hMF2.tr r6⟩
        · exact .inr ⟨o3, N3, w3, v3, it3, pt3, r1, r2, r3, r4, (q4.tr b3).tr r5, r6, r7, hMF2.tr r8, r9, r10⟩
theorem read_all {n : Nat} {b : Nat → Nat} {w v : Wd} (hc : TC w n b) (hm : TM v n b) : Rd w v n (f_X1_readAll w) (f_X6_isRead v) := by
  have hn := hc.1
  unfold f_X1_readAll f_X6_isRead
  simp only [wput_eq]
  obtain ⟨w1, hw1⟩ : ∃ w1, w1 = wset (wset (wset (wset w 6 3 0) 6 4 0) 6 5 (-1)) 6 6 0 := ⟨_, rfl⟩
  obtain ⟨v1, hv1⟩ : ∃ v1, v1 = wset (wset v 0 24 0) 0 23 0 := ⟨_, rfl⟩
  rw [← hw1, ← hv1]
  have cf : CF w w1 := by rw [hw1]; exact ((((CF.rf w).s6 _ (by decide)).s6 _ (by decide)).s6 _ (by decide)).s6 _ (by decide)
  have mf : MF v v1 := by rw [hv1]; exact ((MF.rf v).s0 _ (by omega)).s0 _ (by omega)
  have hp : PS w1 (-1) 0 0 (fun _ => 0) 0 := by
    rw [hw1]
    refine ⟨?_, ?_, ws_same _ _ _ _, by omega, .inl ⟨rfl, ?_, fun k hk => by omega⟩⟩
    · rw [ws_k _ _ (by decide), ws_same]
    · rw [ws_k _ _ (by decide), ws_k _ _ (by decide), ws_same]; rfl
    · rw [ws_k _ _ (by decide), ws_k _ _ (by decide), ws_k _ _ (by decide), ws_same]; rfl
  obtain ⟨s2, a1, a2, a3, a4, a5⟩ := m_blanks (s := 0) (TM_MF hm mf) (by omega) (by rw [hv1, ws_k _ _ (by decide), ws_same]; rfl)
  obtain ⟨w2, f2, b1, b2, b3, b4, b5⟩ := c_blanks s2 0 w1 (-1) 0 0 (fun _ => 0) 0 (TC_CF hc cf) (by omega) (by omega) hp (fun k h1 h2 => a4 k h1 (by omega))
  rw [Nat.zero_add] at b1
  have hf2 : f2 = 0 := by
    rcases Nat.eq_zero_or_pos s2 with z | z
    · exact b4 z
    · exact b5 z
  rw [hf2] at b2
  have eC : f_X1_readAll_b22 FUEL 0 w1 = RA w1 0 := rfl
  rw [a3, bind_s, eC, b1]
  have mf2 : MF v (wset v1 0 24 (nI s2)) := mf.s0 _ (by omega)
  have r := read_b (n - s2) s2 FUEL w2 (wset v1 0 24 (nI s2)) 0 0 (fun _ => 0) (fun _ => 0) (TC_CF hc (cf.tr b3)) (TM_MF hm mf2) (by omega) (by unfold FUEL; omega) a5 (by omega) (by omega) (ws_same _ _ _ _) (by rw [ws_k _ _ (by decide), hv1, ws_same]; rfl) b2 ⟨rfl, rfl, fun j hj => by omega⟩
  rcases r with ⟨p, w3, v3, r1, r2, r3, r4, r5, r6⟩ | ⟨o3, N3, w3, v3, it3, pt3, r1, r2, r3, r4, r5, r6, r7, r8, r9, r10⟩
  · exact .inl ⟨p, w3, v3, r1, r2, (cf.tr b3).tr r3, r4, r5, mf2.tr r6⟩
  · exact .inr ⟨o3, N3, w3, v3, it3, pt3, r1, r2, r3, r4, (cf.tr b3).tr r5, r6, r7, mf2.tr r8, r9, r10⟩
