/-! CONSTRUCTORS: walks over a list of cells that grows -/
abbrev tyK (Z : CSp) : List (ClassId × FieldType) := [(cI Z, .int), (cR Z, .object RX4)]
def fWaves (j : Nat) : Int32 := ([500, 700, 1100] : List Int32).getD j 0
def fSets (j : Nat) : Int32 := ([4, 20, 4000, 5000, 50, 10] : List Int32).getD j 0
/-- what holds of the machine's state all along -/
def stK (Z : CSp) (A : Nat → Prop) (U : State) : Prop := StA "FIRST_WAVES" (tC Z 4) 3 fWaves A U ∧ StA "FIRST_SETTINGS" (tC Z 5) 6 fSets A U ∧ va_Nw (.fieldLinkNest RX4 28 RX5 "FIRST_WAVES" "[I" RX5) U ∧ va_Nw (.fieldLinkNest RX4 37 RX5 "FIRST_SETTINGS" "[I" RX5) U ∧ U.vm.findClass ("[" ++ FieldType.int.toString) = some (cI Z) ∧ va_K Z.2.1 CL (tyK Z) U ∧ va_Nw (.methodLinkNest RX5 39 yX1_init RX5) U ∧ va_AO RX4 U
def Ck (Z : CSp) (A : Nat → Prop) (M : Mt) (p : Program) (s : State) (m : MethodId) (args : Array Value) (meth : Method) (c : Code) : Prop := p.tables.exec = Jvm.exec ∧ c.code = M.1 ∧ c.maxLocals = mL M ∧ s.vm.findClass M.2.1 = some m.cls ∧ (∀ w ∈ GT, w.before args s = true) ∧ meth.sig.returnType = none ∧ meth.locks = false ∧ meth.name = "<init>" ∧ stK Z A s ∧ ∀ q, s.heap.size ≤ q → A q
def Wk (Z : CSp) (A : Nat → Prop) (M : Mt) (Qc : Array Value → State → Outcome → State → Prop) (mc ms k n : Nat) (ws : va_W) (pc : Nat) (lv : List (Nat × Value)) (st : List Value) : Prop :=
  ∀ (p : Program) (e : Env) (s : State) (m : MethodId) (args : Array Value) (below : List Frame) (meth : Method) (c : Code) (H : Heap) (locs : List Loc) (ls : Array Slot), Ck Z A M p s m args meth c → va_P Z.2.1 CL ws H → va_D A ws → va_S A s.heap H locs → lv_has ls (mL M) lv → W p Z.1 e (mR M) s m args below meth c H locs k n (MQ below Qc args s mc ms A) (F0 m pc ls st)
section KK
variable {Z : CSp} {A : Nat → Prop} {M : Mt} {Qc : Array Value → State → Outcome → State → Prop} {mc ms k n : Nat} {ws : va_W} {pc : Nat} {lv : List (Nat × Value)} {st : List Value}
theorem h_aload {j : Fin 4} {x : Nat} (d : decode M.1 pc = .ok (.aload_n j, 1)) (i : Nat) (hi : lv[i]? = some ((j : Nat), Value.ref x)) (kk : Wk Z A M Qc mc ms k n ws (pc + 1) lv (.ref x :: st)) : Wk Z A M Qc mc ms k n ws pc lv st := fun p e s m args below meth c H locs ls C hP hD hS hl => lv_aload_n C.1 C.2.1 d rfl (lv_at hl i hi) (kk p e s m args below meth c H locs ls C hP hD hS hl)
theorem h_iconst {v : Int} {x : Int32} (d : decode M.1 pc = .ok (.iconst v, 1)) (hv : Int32.ofInt v = x) (kk : Wk Z A M Qc mc ms k n ws (pc + 1) lv (.int x :: st)) : Wk Z A M Qc mc ms k n ws pc lv st := fun p e s m args below meth c H locs ls C hP hD hS hl => lv_iconst C.1 C.2.1 d hv (kk p e s m args below meth c H locs ls C hP hD hS hl)
theorem h_bipush {v : Int} {x : Int32} (d : decode M.1 pc = .ok (.bipush v, 2)) (hv : (Int8.ofInt v).toInt32 = x) (kk : Wk Z A M Qc mc ms k n ws (pc + 2) lv (.int x :: st)) : Wk Z A M Qc mc ms k n ws pc lv st := fun p e s m args below meth c H locs ls C hP hD hS hl => lv_bipush C.1 C.2.1 d hv (kk p e s m args below meth c H locs ls C hP hD hS hl)
theorem h_sipush {v : Int} {x : Int32} (d : decode M.1 pc = .ok (.sipush v, 3)) (hv : (Int16.ofInt v).toInt32 = x) (kk : Wk Z A M Qc mc ms k n ws (pc + 3) lv (.int x :: st)) : Wk Z A M Qc mc ms k n ws pc lv st := fun p e s m args below meth c H locs ls C hP hD hS hl => lv_sipush C.1 C.2.1 d hv (kk p e s m args below meth c H locs ls C hP hD hS hl)
theorem h_dup {va : Value} (d : decode M.1 pc = .ok (.dup, 1)) (hva : va.category = 1) (kk : Wk Z A M Qc mc ms k n ws (pc + 1) lv (va :: va :: st)) : Wk Z A M Qc mc ms k n ws pc lv (va :: st) := fun p e s m args below meth c H locs ls C hP hD hS hl => lv_dup C.1 C.2.1 d hva (kk p e s m args below meth c H locs ls C hP hD hS hl)
theorem h_obj {i a : Nat} (hk : Cond.methodLink M.2.1 i objectInit ∈ GT) (hb : 1 ≤ (mR M).frames ∧ (st.map fun v => v.category).sum + 12 ≤ (mR M).locals) (d : decode M.1 pc = .ok (.invokespecial i, 3)) (kk : Wk Z A M Qc mc ms k n ws (pc + 3) lv st) : Wk Z A M Qc mc ms k n ws pc lv (.ref a :: st) := fun p e s m args below meth c H locs ls C hP hD hS hl => W.objInit C.1 C.2.1 C.2.2.2.1 (C.2.2.2.2.1 _ hk) (C.2.2.2.2.1 _ ki_Object_init) (C.2.2.2.2.1 _ kc_Object_init) rfl (by rw [C.2.2.1]; exact hl.1) rfl d hb.1 (by show 2 * 0 + _ + 12 ≤ _; omega) (kk p e s m args below meth c H locs ls C hP hD hS hl)
theorem karrG : Cond.arrayClass .int ∈ GT := gt_of karrayClass (by decide +kernel)
theorem h_newa {x : Int32} {N : Nat} (hx : ¬ x < 0) (hN : x.toNatClampNeg = N) (hb : N * 4 ≤ 536870912) (hc : k + 1 ≤ (mR M).cells) (hs : n + N ≤ (mR M).slots) (d : decode M.1 pc = .ok (.newarray .int, 2)) (kk : ∀ q : Nat, Wk Z A M Qc mc ms (k + 1) (n + N) (ws ++ [(q, .inl (cI Z, N, .inl (fun _ => 0)))]) (pc + 2) lv (.ref q :: st)) : Wk Z A M Qc mc ms k n ws pc lv (.int x :: st) := by
  intro p e s m args below meth c H locs ls C hP hD hS hl
  have hfc := C.2.2.2.2.2.2.2.2.1.2.2.2.2.1
  refine va_newaK (atype := .int) C.1 C.2.1 (C.2.2.2.2.1 _ karrG) rfl d rfl hx hN hb hc hs rfl fun H1 cA e1 z1 o1 hAr hNm => ?_
  obtain rfl : cA = cI Z := Option.some.inj (hNm.symm.trans hfc)
  have hlt : ∀ (i : Nat) (y : Nat × va_E), ws[i]? = some y → y.1 < H.size := fun i y hy => (hP i y hy).lt
  refine kk H.size p e s m args below meth c H1 locs ls C ?_ ?_ ?_ hl
  · intro i y hy
    by_cases hi : i < ws.length
    · rw [List.getElem?_append_left hi] at hy
      exact (hP i y hy).kept (o1 y.1 (hlt i y hy))
    · rw [List.getElem?_append_right (by omega)] at hy
      have : i - ws.length = 0 := by
        rcases Nat.eq_zero_or_pos (i - ws.length) with z | z
        · exact z
        · rw [List.getElem?_eq_none (show 1 ≤ _ from z)] at hy; cases hy
      rw [this] at hy
      cases hy
      exact e1
  · refine ⟨fun i j a b ha hb hab => ?_, fun i y hy => ?_⟩
    · by_cases hi : i < ws.length
      · rw [List.getElem?_append_left hi] at ha
        by_cases hj : j < ws.length
        · rw [List.getElem?_append_left hj] at hb
          exact hD.1 i j a b ha hb hab
        · rw [List.getElem?_append_right (by omega)] at hb
          have : j - ws.length = 0 := by
            rcases Nat.eq_zero_or_pos (j - ws.length) with z | z
            · exact z
            · rw [List.getElem?_eq_none (show 1 ≤ _ from z)] at hb; cases hb
          rw [this] at hb
          cases hb
          have := hlt i a ha
          rw [hab] at this
          exact absurd this (Nat.lt_irrefl _)
      · rw [List.getElem?_append_right (by omega)] at ha
        have h1 : i - ws.length = 0 := by
          rcases Nat.eq_zero_or_pos (i - ws.length) with z | z
          · exact z
          · rw [List.getElem?_eq_none (show 1 ≤ _ from z)] at ha; cases ha
        rw [h1] at ha
        cases ha
        by_cases hj : j < ws.length
        · rw [List.getElem?_append_left hj] at hb
          have := hlt j b hb
          rw [← hab] at this
          exact absurd this (Nat.lt_irrefl _)
        · rw [List.getElem?_append_right (by omega)] at hb
          have h2 : j - ws.length = 0 := by
            rcases Nat.eq_zero_or_pos (j - ws.length) with z | z
            · exact z
            · rw [List.getElem?_eq_none (show 1 ≤ _ from z)] at hb; cases hb
          omega
    · by_cases hi : i < ws.length
      · rw [List.getElem?_append_left hi] at hy
        exact hD.2 i y hy
      · rw [List.getElem?_append_right (by omega)] at hy
        have : i - ws.length = 0 := by
          rcases Nat.eq_zero_or_pos (i - ws.length) with z | z
          · exact z
          · rw [List.getElem?_eq_none (show 1 ≤ _ from z)] at hy; cases hy
        rw [this] at hy
        cases hy
        exact C.2.2.2.2.2.2.2.2.2 _ hS.1
  · refine ⟨by rw [z1]; have := hS.1; omega, fun q g1 g2 => ?_, hS.2.2⟩
    rw [o1 q (Nat.lt_of_lt_of_le g1 hS.1)]
    exact hS.2.1 q g1 g2
theorem h_put {C₀ : String} {T : u_T} {N ci i a j : Nat} {fs : List Value} {v : Value} {ty0 : Nat → FieldType} {ty : FieldType} (F : FC ci C₀ T N) (hty : ∀ k, k < N → parseFieldDescriptor (T k).2.2.1 = some (ty0 k)) (hnm : ∀ a, a < N → ∀ b, b < N → a ≠ b → (T a).2.1 ≠ (T b).2.1) (hk : Cond.fieldLink M.2.1 i (T j).1 (T j).2.1 (T j).2.2.1 ∈ GT) (q : Nat) (he : ws[q]? = some (a, .inr (ci, fs))) (hj : j < N ∧ j < fs.length ∧ (T j).2.2.2 = false) (hty1 : parseFieldDescriptor (T j).2.2.1 = some ty) (hn : narrow ty v = v) (hfit : fits ty v = true) (d : decode M.1 pc = .ok (.putfield i, 3)) (kk : Wk Z A M Qc mc ms k n (ws.set q (a, .inr (ci, fs.set j v))) (pc + 3) lv st) : Wk Z A M Qc mc ms k n ws pc lv (v :: .ref a :: st) := fun p e s m args below meth c H locs ls C hP hD hS hl => va_put C.1 C.2.1 C.2.2.2.2.1 F.2 ty0 hty hnm C.2.2.2.1 C.2.2.2.2.2.2.2.2.1.2.2.2.2.2.1 hP hD hS q he F.1 j hj.1 (C.2.2.2.2.1 _ hk) (fun _ h9 => h9) hj.2.2 hty1 hn hfit hj.2.1 d (fun H locs hP hD hS => kk p e s m args below meth c H locs ls C hP hD hS hl)
theorem h_putF {C₀ : String} {T : u_T} {N ci i a j : Nat} {fs : List Value} {v : Value} {ty0 : Nat → FieldType} {ty : FieldType} (F : FC ci C₀ T N) (hty : ∀ k, k < N → parseFieldDescriptor (T k).2.2.1 = some (ty0 k)) (hnm : ∀ a, a < N → ∀ b, b < N → a ≠ b → (T a).2.1 ≠ (T b).2.1) (hk : Cond.fieldLink M.2.1 i (T j).1 (T j).2.1 (T j).2.2.1 ∈ GT) (q : Nat) (he : ws[q]? = some (a, .inr (ci, fs))) (hj : j < N ∧ j < fs.length ∧ (T j).2.2.2 = true ∧ (T j).1 = M.2.1) (hty1 : parseFieldDescriptor (T j).2.2.1 = some ty) (hn : narrow ty v = v) (hfit : fits ty v = true) (d : decode M.1 pc = .ok (.putfield i, 3)) (kk : Wk Z A M Qc mc ms k n (ws.set q (a, .inr (ci, fs.set j v))) (pc + 3) lv st) : Wk Z A M Qc mc ms k n ws pc lv (v :: .ref a :: st) := fun p e s m args below meth c H locs ls C hP hD hS hl => va_putF C.1 C.2.1 C.2.2.2.2.1 F.2 ty0 hty hnm C.2.2.2.1 C.2.2.2.2.2.2.2.2.1.2.2.2.2.2.1 hP hD hS q he F.1 j hj.1 (C.2.2.2.2.1 _ hk) (fun _ h9 => h9) hj.2.2.1 C.2.2.2.2.2.2.2.1 hj.2.2.2 hty1 hn hfit hj.2.1 d (fun H locs hP hD hS => kk p e s m args below meth c H locs ls C hP hD hS hl)
end KK
