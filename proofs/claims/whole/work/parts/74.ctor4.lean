/-! CONSTRUCTORS: Arrays.fill over one array, and the rest -/
abbrev EF (Z : CSp) : Sp := (Z.1, Z.2.1, [(cI Z, .int), (cR Z, .object RX4)], (fun q => q = aC Z 0), (fun w => [(aC Z 0, .inl (cI Z, 32, .inl (w.1 0)))]), fun _ => True)
theorem EF_ok (Z : CSp) : EOk (EF Z) := ⟨fun _ _ _ _ _ _ _ _ => trivial, fun _ _ _ _ _ => trivial⟩
theorem qF_0 (Z : CSp) (w : Wd) : (eC (EF Z) w)[0]? = some (aC Z 0, .inl (cI Z, 32, .inl (w.1 0))) := rfl
theorem uF_0 (Z : CSp) (w : Wd) (x : Int32) (j : Nat) : (eC (EF Z) w).set 0 (aC Z 0, .inl (cI Z, 32, .inl (upd (w.1 0) j x))) = eC (EF Z) (wset w 0 j x) := rfl
abbrev MJ7_fillK : Mt := (cJ7_fill_53178, RJ7, 4, none, { frames := 0, cells := 0, slots := 0, locals := 0 })
def f_J7_fillK_b5 (x1 : Int32) (x3 : Int32) : Nat → Int32 → Wd → Option (Wd)
  | 0, _, _ => none
  | n + 1, x2, w =>
  if x3 ≤ x2 then (some w) else (if inb x2 32 = true then (wput w 0 (x2).toNatClampNeg x1 (fun w2 => f_J7_fillK_b5 x1 x3 n (x2 + 1) w2)) else none)
set_option maxRecDepth 100000 in
set_option maxHeartbeats 4000000 in
theorem wk_J7_fillK_b5 (Z : CSp) (x1 : Int32) (x3 : Int32)  : ∀ (n : Nat) (x2 : Int32) (w : Wd), Wm (EF Z) MJ7_fillK oVw w 5 [(0, Value.ref (aC Z 0)), (1, Value.int x1), (2, Value.int x2), (3, Value.int x3)] [] (f_J7_fillK_b5 x1 x3 n x2 w) := by
  intro n
  induction n with
  | zero =>
    intro x2 w
    exact r_none
  | succ n ih =>
    intro x2 w
    rw [f_J7_fillK_b5]
    refine r_iload_n dJ7_fill_53178_5 2 rfl ?_
    refine r_iload_n dJ7_fill_53178_6 3 rfl ?_
    refine r_icmp_ge (tgt := 20) dJ7_fill_53178_7 (by decide) (fun _ => ?_) (fun _ => ?_)
    · exact r_vret rfl dJ7_fill_53178_20
    · refine r_aload_n dJ7_fill_53178_10 0 rfl ?_
      refine r_iload_n dJ7_fill_53178_11 2 rfl ?_
      refine r_iload_n dJ7_fill_53178_12 1 rfl ?_
      refine r_iast (qF_0 Z w) rfl (uF_0 Z w x1) dJ7_fill_53178_13 (fun w2 => ?_)
      refine r_iinc (lv' := [(0, Value.ref (aC Z 0)), (1, Value.int x1), (2, Value.int (x2 + 1)), (3, Value.int x3)]) dJ7_fill_53178_14 2 rfl (by rfl) (Nat.le_of_ble_eq_true rfl) [1, 2, 0, 3] rfl ?_
      refine r_goto (tgt := 5) dJ7_fill_53178_17 (by decide) ?_
      exact ih (x2 + 1) w2
def f_J7_fillK (x1 : Int32) (w : Wd) : Option (Wd) :=
  f_J7_fillK_b5 x1 (32 : Int32) FUEL (0 : Int32) w
set_option maxRecDepth 100000 in
set_option maxHeartbeats 4000000 in
theorem wk_J7_fillK (Z : CSp) (w : Wd) (x1 : Int32)  : Wm (EF Z) MJ7_fillK oVw w 0 [(0, Value.ref (aC Z 0)), (1, Value.int x1)] [] (f_J7_fillK x1 w) := by
  unfold f_J7_fillK
  refine r_iconst (v := 0) dJ7_fill_53178_0 (by decide) ?_
  refine r_istore_n (lv' := [(0, Value.ref (aC Z 0)), (1, Value.int x1), (2, Value.int (0 : Int32))]) dJ7_fill_53178_1 (Nat.le_of_ble_eq_true rfl) [1, 2, 0] rfl ?_
  refine r_aload_n dJ7_fill_53178_2 0 rfl ?_
  refine r_alen (v := 32) (qF_0 Z w) rfl rfl dJ7_fill_53178_3 ?_
  refine r_istore_n (lv' := [(0, Value.ref (aC Z 0)), (1, Value.int x1), (2, Value.int (0 : Int32)), (3, Value.int (32 : Int32))]) dJ7_fill_53178_4 (Nat.le_of_ble_eq_true rfl) [1, 2, 3, 0] rfl ?_
  exact wk_J7_fillK_b5 Z x1 (32 : Int32) FUEL (0 : Int32) w
theorem m_J7_fillK (Z : CSp) (w : Wd) (x1 : Int32) : MetM (EF Z) yJ7_fill_53178 cJ7_fill_53178 4 none { frames := 0, cells := 0, slots := 0, locals := 0 } oVw [Value.ref (aC Z 0), Value.int x1] w (f_J7_fillK x1 w) := MetM_of (plainFor_of_name (by decide)) (Nat.le_of_ble_eq_true rfl) (wk_J7_fillK Z w x1)
theorem fillK_v (w : Wd) : ∃ w' : Wd, f_J7_fillK (-1) w = some w' ∧ ∀ k, k < 32 → w'.1 0 k = -1 := by
  unfold f_J7_fillK
  obtain ⟨w', a1, a4⟩ := loopG (fun n (s : Wd) i => f_J7_fillK_b5 (-1) 32 n i s) (fun s => some s) 32 (fun j s => ∀ k, k < j → s.1 0 k = -1) (by omega)
    (fun m s hI => by
      show f_J7_fillK_b5 (-1) 32 (m + 1) (nI 32) s = _
      rw [f_J7_fillK_b5, if_pos (by decide)])
    (fun m j s hj hI => by
      refine ⟨wset s 0 j (-1), fun k hk => ?_, ?_⟩
      · by_cases h : k = j
        · rw [h, ws_same]
        · rw [ws_k _ _ (by omega)]; exact hI k (by omega)
      · show f_J7_fillK_b5 (-1) 32 (m + 1) (nI j) s = f_J7_fillK_b5 (-1) 32 m (nI (j + 1)) _
        rw [f_J7_fillK_b5, if_neg (fun q => by have := (c_lle (by decide) (by omega)).mp q; omega), if_pos (i_n hj (by omega)), n_cl (by omega), a_al]
        rfl) w (fun k hk => by omega)
  exact ⟨w', a1, a4⟩
def fillG (f : Nat → Int32) : Nat → Int32 := ((f_J7_fillK (-1) ((fun _ => f), 0)).getD ((fun _ => f), 0)).1 0
theorem fillG_v (f : Nat → Int32) : ∀ j, j < 32 → fillG f j = -1 := by
  obtain ⟨w', h1, h2⟩ := fillK_v ((fun _ => f), 0)
  unfold fillG
  rw [h1]
  exact h2
section KK4
variable {Z : CSp} {A : Nat → Prop} {M : Mt} {Qc : Array Value → State → Outcome → State → Prop} {mc ms k n : Nat} {ws : va_W} {pc : Nat} {lv : List (Nat × Value)} {st : List Value}
theorem h_fill {i a q : Nat} {f : Nat → Int32} (hk : Cond.methodLink M.2.1 i yJ7_fill_53178 ∈ GT) (he : ws[q]? = some (a, .inl (cI Z, 32, .inl f))) (hR : 1 ≤ (mR M).frames ∧ 8 + (4 + 11) + 0 ≤ (mR M).locals) (hcs : k ≤ (mR M).cells ∧ n ≤ (mR M).slots) (hcat : (st.map fun v => v.category).sum ≤ 8) (d : decode M.1 pc = .ok (.invokestatic i, 3)) (kk : Wk Z A M Qc mc ms k n (ws.set q (a, .inl (cI Z, 32, .inl (fillG f)))) (pc + 3) lv st) : Wk Z A M Qc mc ms k n ws pc lv (.int (-1) :: .ref a :: st) := by
  intro p e s m args below meth c H locs ls C hP hD hS hl T hT X
  obtain ⟨w', hw1, hw2⟩ := fillK_v ((fun _ => f), 0)
  have hM := m_J7_fillK (Z.1, Z.2.1, cI Z, cR Z, (fun _ => a), tC Z) ((fun _ => f), 0) (-1) w' hw1
  have hP0 : va_P Z.2.1 CL [(a, .inl (cI Z, 32, .inl f))] H := by
    intro j y hy
    have hj : j = 0 := by
      rcases Nat.eq_zero_or_pos j with z | z
      · exact z
      · rw [List.getElem?_eq_none (show 1 ≤ _ from z)] at hy; cases hy
    subst hj
    cases hy
    exact hP q _ he
  have hD0 : va_D (fun q => q = a) [(a, .inl (cI Z, 32, .inl f))] := by
    refine ⟨fun x y b d hb hd _ => ?_, fun x b hb => ?_⟩
    · have hx : x = 0 := by
        rcases Nat.eq_zero_or_pos x with z | z
        · exact z
        · rw [List.getElem?_eq_none (show 1 ≤ _ from z)] at hb; cases hb
      have hy : y = 0 := by
        rcases Nat.eq_zero_or_pos y with z | z
        · exact z
        · rw [List.getElem?_eq_none (show 1 ≤ _ from z)] at hd; cases hd
      omega
    · have hx : x = 0 := by
        rcases Nat.eq_zero_or_pos x with z | z
        · exact z
        · rw [List.getElem?_eq_none (show 1 ≤ _ from z)] at hb; cases hb
      subst hx
      cases hb
      rfl
  have hr := va_runS (e := e) (below := below) (meth := meth) (As := [.ref a, .int (-1)]) (rest := st) (cells := k) (slots := n) (H := H) (locs := locs) (g := F0 m pc ls (.int (-1) :: .ref a :: st)) ⟨C.1, C.2.1, C.2.2.1, C.2.2.2.1, C.2.2.2.2.1⟩ hM ⟨callB_of 2 C.2.2.2.2.1 (gt_in cfJ7_fill_53178.1.1) rfl rfl rfl (C.2.2.2.2.1 _ cfJ7_fill_53178.1.2.1) (C.2.2.2.2.1 _ hk) cfJ7_fill_53178.1.2.2 ⟨hR.1, hR.2⟩, C.2.2.2.2.1 _ cfJ7_fill_53178.2⟩ ⟨metBlind, fun U hU hW => ⟨rfl, EF_ok _, trivial, by rw [hU]; exact hP0, va_K.moved hW.alike C.2.2.2.2.2.2.2.2.1.2.2.2.2.2.1, hD0⟩⟩ rfl rfl hl.1 rfl (lv_room hcat) d ⟨hcs.1, hcs.2⟩
  obtain ⟨v, st₀, t, T', L, h0, X', hL, e1, e2, ⟨⟨hv, hP1, hD1⟩, hz, hk1⟩, stp⟩ := hr T hT X
  cases hv
  rw [h0] at hz hk1
  have hAa : A a := hD.2 q _ he
  have hP2 : va_P Z.2.1 CL (ws.set q (a, .inl (cI Z, 32, .inl (w'.1 0)))) T'.heap := by
    rw [e1]
    have hcell := hP1 0 _ rfl
    have hlq : q < ws.length := (List.getElem?_eq_some_iff.mp he).1
    intro j y hy
    by_cases hj : j = q
    · subst hj
      rw [List.getElem?_set_self hlq] at hy
      cases hy
      exact hcell
    · rw [List.getElem?_set_ne (fun z => hj z.symm)] at hy
      have hne : y.1 ≠ a := fun z => hj (hD.1 j q y _ hy he z)
      exact (hP j y hy).kept (hk1 y.1 (hP j y hy).lt hne)
  have eG : fillG f = w'.1 0 := by unfold fillG; rw [hw1]; rfl
  rw [← eG] at hP2
  obtain ⟨t2, a1, b1⟩ := kk p e s m args below meth c T'.heap (locs ++ L) ls C hP2 (hD.set he)
    ⟨Nat.le_trans hS.1 (by rw [e1]; exact hz), fun q h1 h2 => by rw [e1, hk1 q (Nat.lt_of_lt_of_le h1 hS.1) (fun z => h2 (z ▸ hAa))]; exact hS.2.1 q h1 h2, fun x hx => by
      rcases List.mem_append.mp hx with h | h
      · exact hS.2.2 x h
      · exact (hL x h).symm ▸ hAa⟩ hl T' rfl X'
  exact ⟨t2, stp t2 a1, b1⟩
end KK4
