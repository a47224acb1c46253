/-! THE TEXT READ: the class, byte by byte -/
def TC (w : Wd) (n : Nat) (b : Nat → Nat) : Prop := n ≤ 150 ∧ w.1 6 1 = nI n ∧ ∀ k, k < n → w.1 7 k = nI (b k) ∧ b k ≤ 127
def CF (w0 w : Wd) : Prop := (∀ a, a ≠ 6 → a ≠ 8 → w.1 a = w0.1 a) ∧ w.1 6 1 = w0.1 6 1 ∧ w.2 = w0.2
theorem CF.rf (w : Wd) : CF w w := ⟨fun _ _ _ => rfl, rfl, rfl⟩
theorem CF.tr {a b c : Wd} (h1 : CF a b) (h2 : CF b c) : CF a c := ⟨fun k p q => (h2.1 k p q).trans (h1.1 k p q), h2.2.1.trans h1.2.1, h2.2.2.trans h1.2.2⟩
theorem CF.s6 {w v : Wd} (h : CF w v) {k : Nat} (x : Int32) (hk : k ≠ 1) : CF w (wset v 6 k x) := ⟨fun a p q => by rw [ws_c _ _ p]; exact h.1 a p q, by rw [ws_k _ _ (by omega)]; exact h.2.1, h.2.2⟩
theorem CF.s8 {w v : Wd} (h : CF w v) (k : Nat) (x : Int32) : CF w (wset v 8 k x) := ⟨fun a p q => by rw [ws_c _ _ q]; exact h.1 a p q, by rw [ws_c _ _ (by decide)]; exact h.2.1, h.2.2⟩
theorem TC_CF {w w' : Wd} {n : Nat} {b : Nat → Nat} (h : TC w n b) (hf : CF w w') : TC w' n b := ⟨h.1, by rw [hf.2.1]; exact h.2.1, fun k hk => by rw [hf.1 7 (by decide) (by decide)]; exact h.2.2 k hk⟩
def RA (w : Wd) (i : Nat) : Option (Int32 × Wd) := f_X1_readAll_b22 (FUEL - i) (nI i) w
theorem RA_step {w : Wd} {n : Nat} {b : Nat → Nat} (h : TC w n b) {i : Nat} (hi : i < n) : RA w i = (f_X1_takes (nI (b i)) w).bind (fun z2 => if z2.1 = 0 then (some (nI i, z2.2)) else RA z2.2 (i + 1)) := by
  have h1 := h.1
  unfold RA
  rw [show FUEL - i = (FUEL - (i + 1)) + 1 by unfold FUEL; omega, f_X1_readAll_b22, h.2.1, if_neg (fun q => by have := (c_le (by omega) (by omega)).mp q; omega), if_neg (fun q => by have := (c_lle (by decide) (by omega)).mp q; omega), if_pos (i_n (by omega) (by omega)), n_cl (by omega), (h.2.2 i hi).1, a_al]
theorem RA_end {w : Wd} {n : Nat} {b : Nat → Nat} (h : TC w n b) : RA w n = f_X1_readAll_b58 w := by
  have h1 := h.1
  unfold RA
  rw [show FUEL - n = (FUEL - (n + 1)) + 1 by unfold FUEL; omega, f_X1_readAll_b22, h.2.1, if_pos (Int32.le_refl _)]
/-- where the reading stands: numbers due, orders read, items as if an open number were ended, figures of an open one -/
def PS (w : Wd) (due : Int32) (ord N : Nat) (it : Nat → Int32) (fig : Nat) : Prop := w.1 6 5 = due ∧ w.1 6 4 = nI ord ∧ w.1 6 6 = nI fig ∧ fig ≤ 4 ∧ ((fig = 0 ∧ w.1 6 3 = nI N ∧ ∀ k, k < N → w.1 8 k = it k) ∨ (0 < fig ∧ ∃ c, N = c + 1 ∧ w.1 6 3 = nI c ∧ w.1 6 7 = it c ∧ ∀ k, k < c → w.1 8 k = it k))
theorem c_keepI {w : Wd} {c : Nat} (x : Int32) (hc : c < 150) (h3 : w.1 6 3 = nI c) : f_X1_keep x w = some (wset (wset w 8 c x) 6 3 (nI (c + 1))) := by
  unfold f_X1_keep f_X1_keep_b34
  rw [h3, w_t (nI_pos' (by omega)) ((c_lel (by decide) (by omega)).mpr (by omega)), bind_s, if_neg one0, if_pos (i_n hc (by omega)), n_cl (by omega)]
  simp only [wput_eq]
  rw [ws_c _ _ (by decide), h3, a_al]
theorem c_endN {w : Wd} {due : Int32} {ord N : Nat} {it : Nat → Int32} {fig : Nat} (h : PS w due ord N it fig) (hN : N ≤ 150) : ∃ w' : Wd, f_X1_endNumber w = some w' ∧ PS w' due ord N it 0 ∧ CF w w' := by
  obtain ⟨h5, h4, h6, hf, ⟨rfl, h3, h8⟩ | ⟨hp, c, rfl, h3, h7, h8⟩⟩ := h
  · unfold f_X1_endNumber f_X1_endNumber_b20
    rw [h6, if_pos (by decide)]
    exact ⟨w, rfl, ⟨h5, h4, h6, hf, .inl ⟨rfl, h3, h8⟩⟩, CF.rf w⟩
  · unfold f_X1_endNumber f_X1_endNumber_b20
    rw [h6, if_neg (fun q => by have := (c_le0 (by omega)).mp q; omega), c_keepI _ (by omega) h3, bind_s, wput_eq]
    refine ⟨_, rfl, ⟨?_, ?_, ?_, by omega, .inl ⟨rfl, ?_, fun k hk => ?_⟩⟩, (((CF.rf w).s8 _ _).s6 _ (by decide)).s6 _ (by decide)⟩
    · rw [ws_k _ _ (by decide), ws_k _ _ (by decide), ws_c _ _ (by decide)]; exact h5
    · rw [ws_k _ _ (by decide), ws_k _ _ (by decide), ws_c _ _ (by decide)]; exact h4
    · rw [ws_same]; rfl
    · rw [ws_k _ _ (by decide), ws_same]
    · rw [ws_c _ _ (by decide), ws_c _ _ (by decide)]
      by_cases hkc : k = c
      · rw [hkc, ws_same, h7]
      · rw [ws_k _ _ (by omega)]; exact h8 k (by omega)
theorem dg_f {x : Nat} (hx : x ≤ 127) (h : ¬ (48 ≤ x ∧ x ≤ 57)) (w : Wd) : f_X1_takes (nI x) w = f_X1_takes_b21 (nI x) w := by
  unfold f_X1_takes
  by_cases h1 : x < 48
  · rw [if_pos ((c_ltl (by decide) (by omega)).mpr h1)]
  · rw [if_neg (fun q => h1 ((c_ltl (by decide) (by omega)).mp q)), if_pos ((c_llt (by decide) (by omega)).mpr (by omega))]
theorem dg_t {x : Nat} (h1 : 48 ≤ x) (h2 : x ≤ 57) (w : Wd) : f_X1_takes (nI x) w = f_X1_takesFigure (nI (x - 48)) w := by
  unfold f_X1_takes
  rw [if_neg (fun q => by have := (c_ltl (by decide) (by omega)).mp q; omega), if_neg (fun q => by have := (c_llt (by decide) (by omega)).mp q; omega), a_sl h1]
  unfold f_X1_takesFigure f_X1_takesFigure_b32
  simp only [wput_eq, zb_0, zb_1, if_true]
  (repeat' split) <;> rfl
def ins (it : Nat → Int32) (N : Nat) (x : Int32) : Nat → Int32 := fun k => if k = N then x else it k
theorem ins_s (it : Nat → Int32) (N : Nat) (x : Int32) : ins it N x N = x := by unfold ins; rw [if_pos rfl]
theorem ins_n (it : Nat → Int32) {N k : Nat} (x : Int32) (h : k ≠ N) : ins it N x k = it k := by unfold ins; rw [if_neg h]
theorem ins_ins (it : Nat → Int32) (N : Nat) (x y : Int32) : ins (ins it N x) N y = ins it N y := by
  funext k
  unfold ins
  split <;> rfl
/-- a figure that begins a number -/
theorem t_fig0 {w : Wd} {m ord N : Nat} {it : Nat → Int32} {d : Nat} (h : PS w (nI (m + 1)) ord N it 0) (hm : m ≤ 10) (hd : d ≤ 9) : ∃ w' : Wd, f_X1_takesFigure (nI d) w = some (1, w') ∧ PS w' (nI m) ord (N + 1) (ins it N (nI d)) 1 ∧ CF w w' := by
  obtain ⟨h5, h4, h6, hf, ⟨-, h3, h8⟩ | ⟨hp, -⟩⟩ := h
  · unfold f_X1_takesFigure f_X1_takesFigure_b32
    simp only [wput_eq]
    rw [h6, if_pos (by rfl), h5, if_pos ((c_lle (by decide) (by omega)).mpr (by omega)), a_sl (by omega)]
    rw [ws_k _ _ (by decide), ws_k _ _ (by decide), h6, if_pos (by decide), ws_same, ws_k _ _ (by decide), ws_k _ _ (by decide), ws_k _ _ (by decide), h6]
    refine ⟨_, rfl, ⟨?_, ?_, ?_, by omega, .inr ⟨by omega, N, rfl, ?_, ?_, fun k hk => ?_⟩⟩, ((((CF.rf w).s6 _ (by decide)).s6 _ (by decide)).s6 _ (by decide)).s6 _ (by decide)⟩
    · rw [ws_k _ _ (by decide), ws_k _ _ (by decide), ws_k _ _ (by decide), ws_same]; rfl
    · rw [ws_k _ _ (by decide), ws_k _ _ (by decide), ws_k _ _ (by decide), ws_k _ _ (by decide)]; exact h4
    · rw [ws_same]; rfl
    · rw [ws_k _ _ (by decide), ws_k _ _ (by decide), ws_k _ _ (by decide), ws_k _ _ (by decide)]; exact h3
    · rw [ws_k _ _ (by decide), ws_same, ins_s]
      show nI (0 * 10) + nI d = nI d
      rw [nI_add, Nat.zero_mul, Nat.zero_add]
    · rw [ws_c _ _ (by decide), ws_c _ _ (by decide), ws_c _ _ (by decide), ws_c _ _ (by decide), ins_n _ _ (by omega)]; exact h8 k hk
  · omega
/-- a figure that goes on -/
theorem t_fig1 {w : Wd} {due : Int32} {ord N : Nat} {it : Nat → Int32} {fig d x : Nat} (h : PS w due ord (N + 1) it fig) (h0 : 0 < fig) (h4' : fig < 4) (hx : it N = nI x) : ∃ w' : Wd, f_X1_takesFigure (nI d) w = some (1, w') ∧ PS w' due ord (N + 1) (ins it N (nI (10 * x + d))) (fig + 1) ∧ CF w w' := by
  obtain ⟨h5, h4, h6, hf, ⟨hp, -⟩ | ⟨-, c, hc, h3, h7, h8⟩⟩ := h
  · omega
  · obtain rfl : c = N := by omega
    unfold f_X1_takesFigure f_X1_takesFigure_b32
    simp only [wput_eq]
    rw [h6, if_neg (fun q => by have := (c_eq0 (by omega)).mp q; omega), if_pos ((c_ltl (by decide) (by omega)).mpr h4'), ws_k _ _ (by decide), h6, h7, hx, a_ml, nI_add, a_al]
    refine ⟨_, rfl, ⟨?_, ?_, ?_, by omega, .inr ⟨by omega, c, rfl, ?_, ?_, fun k hk => ?_⟩⟩, ((CF.rf w).s6 _ (by decide)).s6 _ (by decide)⟩
    · rw [ws_k _ _ (by decide), ws_k _ _ (by decide)]; exact h5
    · rw [ws_k _ _ (by decide), ws_k _ _ (by decide)]; exact h4
    · rw [ws_same]
    · rw [ws_k _ _ (by decide), ws_k _ _ (by decide)]; exact h3
    · rw [ws_k _ _ (by decide), ws_same, ins_s, Nat.mul_comm]
    · rw [ws_c _ _ (by decide), ws_c _ _ (by decide), ins_n _ _ (by omega)]; exact h8 k hk
theorem t_fig4 {w : Wd} {due : Int32} {ord N : Nat} {it : Nat → Int32} {d : Nat} (h : PS w due ord N it 4) : f_X1_takesFigure (nI d) w = some (0, w) := by
  obtain ⟨h5, h4, h6, hf, -⟩ := h
  unfold f_X1_takesFigure f_X1_takesFigure_b32
  rw [h6, if_neg (by decide), if_neg (by decide)]
  rfl
theorem t_figN {w : Wd} {due : Int32} {ord N : Nat} {it : Nat → Int32} {d : Nat} (h : PS w due ord N it 0) (hd : due = 0 ∨ due = -1) : f_X1_takesFigure (nI d) w = some (0, w) := by
  obtain ⟨h5, h4, h6, hf, -⟩ := h
  unfold f_X1_takesFigure
  rw [h6, if_pos (by decide), h5]
  rcases hd with rfl | rfl
  · rfl
  · rfl
theorem t_blank {w : Wd} {due : Int32} {ord N : Nat} {it : Nat → Int32} {fig : Nat} (h : PS w due ord N it fig) (hN : N ≤ 150) : ∃ w' : Wd, f_X1_takes (nI 32) w = some (1, w') ∧ PS w' due ord N it 0 ∧ CF w w' := by
  obtain ⟨w', a, b, c⟩ := c_endN h hN
  rw [dg_f (by omega) (by omega)]
  unfold f_X1_takes_b21
  rw [a, bind_s, if_pos (by decide)]
  exact ⟨w', rfl, b, c⟩
/-- within an order: what is no figure and no blank -/
theorem t_in {w : Wd} {m ord N : Nat} {it : Nat → Int32} {fig x : Nat} (h : PS w (nI m) ord N it fig) (hN : N ≤ 150) (hm : m ≤ 10) (hx : x ≤ 127) (hd : ¬ (48 ≤ x ∧ x ≤ 57)) (hb : x ≠ 32) : (x = 59 ∧ m = 0 ∧ ∃ w' : Wd, f_X1_takes (nI x) w = some (1, w') ∧ PS w' (-1) (ord + 1) N it 0 ∧ CF w w') ∨ (¬ (x = 59 ∧ m = 0) ∧ ∃ w' : Wd, f_X1_takes (nI x) w = some (0, w') ∧ CF w w') := by
  obtain ⟨w', a, b, c⟩ := c_endN h hN
  obtain ⟨b5, b4, b6, bf, bb⟩ := b
  rw [dg_f hx hd]
  unfold f_X1_takes_b21 f_X1_takes_b81
  have hne : ¬ nI m = (-1 : Int32) := fun q => by
    have := congrArg Int32.toInt q
    rw [toI_n (by omega)] at this
    have e1 : (-1 : Int32).toInt = -1 := by decide
    omega
  rw [a, bind_s, if_neg (fun q => hb ((c_eql (by decide) (by omega)).mp q)), b5, if_neg hne]
  by_cases h59 : x = 59
  · rw [if_pos (by rw [h59]; rfl)]
    by_cases hm0 : m = 0
    · left
      refine ⟨h59, hm0, ?_⟩
      rw [if_pos (by rw [hm0]; decide)]
      simp only [wput_eq]
      rw [ws_k _ _ (by decide), b4, a_al]
      refine ⟨_, rfl, ⟨?_, ?_, ?_, by omega, ?_⟩, (c.s6 _ (by decide)).s6 _ (by decide)⟩
      · rw [ws_k _ _ (by decide), ws_same]
      · rw [ws_same]
      · rw [ws_k _ _ (by decide), ws_k _ _ (by decide)]; exact b6
      · rcases bb with ⟨-, e3, e8⟩ | ⟨hp, -⟩
        · exact .inl ⟨rfl, by rw [ws_k _ _ (by decide), ws_k _ _ (by decide)]; exact e3, fun k hk => by rw [ws_c _ _ (by decide), ws_c _ _ (by decide)]; exact e8 k hk⟩
        · omega
    · right
      refine ⟨fun q => hm0 q.2, ?_⟩
      rw [if_neg (fun q => hm0 (by have := (c_le0 (by omega)).mp q; omega))]
      exact ⟨w', rfl, c⟩
  · right
    refine ⟨fun q => h59 q.1, ?_⟩
    rw [if_neg (fun q => h59 ((c_eql (by decide) (by omega)).mp q))]
    exact ⟨w', rfl, c⟩
/-- outside an order: a letter, or what is none -/
theorem t_out {w : Wd} {ord N : Nat} {it : Nat → Int32} {x : Nat} (h : PS w (-1) ord N it 0) (hN : N < 150) (hx : x ≤ 127) (hb : x ≠ 32) : (∃ m : Nat, 2 ≤ m ∧ m ≤ 5 ∧ f_X1_numbersOf (nI x) = some (nI m) ∧ f_X6_manyOf (nI x) = some (nI m) ∧ ∃ w' : Wd, f_X1_takes (nI x) w = some (1, w') ∧ PS w' (nI m) ord (N + 1) (ins it N (nI x)) 0 ∧ CF w w') ∨ (f_X6_manyOf (nI x) = some (-10001) ∧ ∃ w' : Wd, f_X1_takes (nI x) w = some (0, w') ∧ CF w w') := by
  have nums : ∀ x : Nat, x ≤ 127 → (∃ m : Nat, 2 ≤ m ∧ m ≤ 5 ∧ ¬ (48 ≤ x ∧ x ≤ 57) ∧ f_X1_numbersOf (nI x) = some (nI m) ∧ f_X6_manyOf (nI x) = some (nI m)) ∨ (f_X1_numbersOf (nI x) = some (-1) ∧ f_X6_manyOf (nI x) = some (-10001)) := fun x hx => by
    by_cases h99 : x = 99
    · subst h99; exact .inl ⟨3, by omega, by omega, by omega, rfl, rfl⟩
    by_cases h101 : x = 101
    · subst h101; exact .inl ⟨5, by omega, by omega, by omega, rfl, rfl⟩
    by_cases h103 : x = 103
    · subst h103; exact .inl ⟨2, by omega, by omega, by omega, rfl, rfl⟩
    by_cases h108 : x = 108
    · subst h108; exact .inl ⟨4, by omega, by omega, by omega, rfl, rfl⟩
    by_cases h115 : x = 115
    · subst h115; exact .inl ⟨2, by omega, by omega, by omega, rfl, rfl⟩
    by_cases h118 : x = 118
    · subst h118; exact .inl ⟨2, by omega, by omega, by omega, rfl, rfl⟩
    right
    have g : ∀ c : Nat, c ≤ 127 → x ≠ c → ¬ nI x = nI c := fun c hc hne q => hne ((c_eq (by omega) (by omega)).mp q)
    constructor
    · unfold f_X1_numbersOf f_X1_numbersOf_b104 f_X1_numbersOf_b96
      rw [if_neg (show ¬ nI x = 99 from g 99 (by omega) h99), if_neg (show ¬ nI x = 101 from g 101 (by omega) h101), if_neg (show ¬ nI x = 103 from g 103 (by omega) h103), if_neg (show ¬ nI x = 108 from g 108 (by omega) h108), if_neg (show ¬ nI x = 115 from g 115 (by omega) h115), if_neg (show ¬ nI x = 118 from g 118 (by omega) h118)]
      simp only [ite_self]
    · unfold f_X6_manyOf f_X6_manyOf_b104 f_X6_manyOf_b96
      rw [if_neg (show ¬ nI x = 99 from g 99 (by omega) h99), if_neg (show ¬ nI x = 101 from g 101 (by omega) h101), if_neg (show ¬ nI x = 103 from g 103 (by omega) h103), if_neg (show ¬ nI x = 108 from g 108 (by omega) h108), if_neg (show ¬ nI x = 115 from g 115 (by omega) h115), if_neg (show ¬ nI x = 118 from g 118 (by omega) h118)]
      simp only [ite_self]
  by_cases hd : 48 ≤ x ∧ x ≤ 57
  · rcases nums x hx with ⟨m, -, -, hh, -⟩ | ⟨-, e2⟩
    · exact absurd hd hh
    · refine .inr ⟨e2, w, ?_, CF.rf w⟩
      rw [dg_t hd.1 hd.2, t_figN h (.inr rfl)]
  · obtain ⟨h5, h4, h6, hf, ⟨-, h3, h8⟩ | ⟨hp, -⟩⟩ := h
    · have hen : f_X1_endNumber w = some w := by
        unfold f_X1_endNumber f_X1_endNumber_b20
        rw [h6, if_pos (by decide)]
      rcases nums x hx with ⟨m, m1, m2, -, e1, e2⟩ | ⟨e1, e2⟩
      · refine .inl ⟨m, m1, m2, e1, e2, ?_⟩
        rw [dg_f hx hd]
        unfold f_X1_takes_b21 f_X1_takes_b67
        have hne : ¬ nI m = (-1 : Int32) := fun q => by
          have := congrArg Int32.toInt q
          rw [toI_n (by omega)] at this
          have e1 : (-1 : Int32).toInt = -1 := by decide
          omega
        rw [hen, bind_s, if_neg (fun q => hb ((c_eql (by decide) (by omega)).mp q)), h5, if_pos rfl, e1, bind_s, wput_eq, c_keepI (c := N) _ hN (by rw [ws_k _ _ (by decide)]; exact h3), bind_s, ws_k _ _ (by decide), ws_c _ _ (by decide), ws_same, if_neg hne]
        refine ⟨_, rfl, ⟨?_, ?_, ?_, by omega, .inl ⟨rfl, ?_, fun k hk => ?_⟩⟩, (((CF.rf w).s6 _ (by decide)).s8 _ _).s6 _ (by decide)⟩
        · rw [ws_k _ _ (by decide), ws_c _ _ (by decide), ws_same]
        · rw [ws_k _ _ (by decide), ws_c _ _ (by decide), ws_k _ _ (by decide)]; exact h4
        · rw [ws_k _ _ (by decide), ws_c _ _ (by decide), ws_k _ _ (by decide)]; exact h6
        · rw [ws_same]
        · rw [ws_c _ _ (by decide)]
          by_cases hkN : k = N
          · rw [hkN, ws_same, ins_s]
          · rw [ws_k _ _ (by omega), ws_c _ _ (by decide), ins_n _ _ hkN]; exact h8 k (by omega)
      · refine .inr ⟨e2, ?_⟩
        rw [dg_f hx hd]
        unfold f_X1_takes_b21 f_X1_takes_b67
        rw [hen, bind_s, if_neg (fun q => hb ((c_eql (by decide) (by omega)).mp q)), h5, if_pos rfl, e1, bind_s, wput_eq, c_keepI (c := N) _ hN (by rw [ws_k _ _ (by decide)]; exact h3), bind_s, ws_k _ _ (by decide), ws_c _ _ (by decide), ws_same, if_pos rfl]
        exact ⟨_, rfl, (((CF.rf w).s6 _ (by decide)).s8 _ _).s6 _ (by decide)⟩
    · omega
