/-! CONSTRUCTORS: calls, ends, contracts -/
def QK (Z : CSp) (A : Nat → Prop) (cs : List Nat → va_W) : Array Value → State → Outcome → State → Prop := va_Qv (fun _ : List Nat => True) (fun u t => va_P Z.2.1 CL (cs u) t.heap ∧ va_D A (cs u)) A
def MetK (Z : CSp) (y : MethodName) (cc : ByteArray) (maxL : Nat) (rm : Room) (h0 ci : Nat) (fs : List Value) (cs : List Nat → va_W) (mc ms : Nat) : Prop := ∀ sz : Nat, Met Z.1 y (Cond.code y cc maxL none :: GT) rm (va_Pc [.ref h0] (fun U => U.heap.size = sz ∧ stK Z (va_A [(h0, .inr (ci, fs))] sz) U ∧ va_P Z.2.1 CL [(h0, .inr (ci, fs))] U.heap)) (QK Z (va_A [(h0, .inr (ci, fs))] sz) cs) mc ms (va_A [(h0, .inr (ci, fs))] sz)
theorem MetK_of {Z : CSp} {y : MethodName} {cc : ByteArray} {maxL : Nat} {rm : Room} {h0 ci : Nat} {fs : List Value} {cs : List Nat → va_W} {mc ms : Nat} (hy : plainFor y = true) (hyn : y.name = "<init>") (hn : (lg_sl [Value.ref h0]).length ≤ maxL) (K : ∀ A : Nat → Prop, Wk Z A (cc, y.cls, maxL, none, rm) (QK Z A cs) mc ms 0 0 [(h0, .inr (ci, fs))] 0 (lv_args 0 [Value.ref h0]) []) : MetK Z y cc maxL rm h0 ci fs cs mc ms := by
  intro sz
  refine Met_ofWF (cc := cc) (maxL := maxL) (ret := none) hy rfl ?_
  intro p e s m args below meth c s₁ B hml hv
  obtain ⟨rfl, hsz, hSt, hP⟩ := hv
  have hts := atoms_spec (ws := Cond.code y cc maxL none :: GT) B.pre
  have hl := lv_entry [Value.ref h0] (n := maxL) hn
  rw [lg_entry_eq]
  refine K _ p e s m _ below meth c s.heap [] _ ⟨B.exec, B.bytes, hml, findClass_of_methodNamed B.named, fun w h => hts w (List.mem_cons_of_mem _ h), B.returns, B.notSynchronized, ?_, hSt, fun q hq => .inr (by rw [← hsz]; exact hq)⟩ hP ?_ va_S.rf hl
  · exact (name_of_methodNamed B.named B.method).1.trans hyn
  · refine ⟨fun i j a b ha hb _ => ?_, fun i a ha => .inl ⟨i, a.2, ha⟩⟩
    have hi : i = 0 := by
      rcases Nat.eq_zero_or_pos i with z | z
      · exact z
      · rw [List.getElem?_eq_none (show 1 ≤ _ from z)] at ha; cases ha
    have hj : j = 0 := by
      rcases Nat.eq_zero_or_pos j with z | z
      · exact z
      · rw [List.getElem?_eq_none (show 1 ≤ _ from z)] at hb; cases hb
    omega
section KK2
variable {Z : CSp} {A : Nat → Prop} {M : Mt} {Qc : Array Value → State → Outcome → State → Prop} {mc ms k n : Nat} {ws : va_W} {pc : Nat} {lv : List (Nat × Value)} {st : List Value}
theorem h_ret {cs : List Nat → va_W} (u : List Nat) (hu : cs u = ws) (hk : k = mc ∧ n = ms) (d : decode M.1 pc = .ok (.return_, 1)) : Wk Z A M (QK Z A cs) mc ms k n ws pc lv [] := by
  intro p e s m args below meth c H locs ls C hP hD hS hl
  obtain ⟨rfl, rfl⟩ := hk
  subst hu
  exact W.vret C.1 C.2.1 C.2.2.2.2.2.1 (fun t ht _ => ⟨⟨u, rfl, trivial, by rw [ht]; exact hP, hD⟩, hS.F ht⟩) hS.2.2 d C.2.2.2.2.2.2.1
theorem h_get {C₀ : String} {T : u_T} {N ci i a : Nat} {fs : List Value} {v : Value} (F : FC ci C₀ T N) (j : Nat) (hj : j < N) (hk : Cond.fieldLink M.2.1 i (T j).1 (T j).2.1 (T j).2.2.1 ∈ GT) (q : Nat) (he : ws[q]? = some (a, .inr (ci, fs))) (hv : fs[j]? = some v) (d : decode M.1 pc = .ok (.getfield i, 3)) (kk : Wk Z A M Qc mc ms k n ws (pc + 3) lv (v :: st)) : Wk Z A M Qc mc ms k n ws pc lv (.ref a :: st) := fun p e s m args below meth c H locs ls C hP hD hS hl => va_get C.1 C.2.1 C.2.2.2.2.1 F.2 C.2.2.2.1 C.2.2.2.2.2.2.2.2.1.2.2.2.2.2.1 hP q he F.1 j hj (C.2.2.2.2.1 _ hk) (fun _ h9 => h9) hv d (kk p e s m args below meth c H locs ls C hP hD hS hl)
theorem h_iast {i x : Int32} {a N q : Nat} {f : Nat → Int32} (he : ws[q]? = some (a, .inl (cI Z, N, .inl f))) (hi : inb i N = true) (d : decode M.1 pc = .ok (.iastore, 1)) (kk : Wk Z A M Qc mc ms k n (ws.set q (a, .inl (cI Z, N, .inl (upd f i.toNatClampNeg x)))) (pc + 1) lv st) : Wk Z A M Qc mc ms k n ws pc lv (.int x :: .int i :: .ref a :: st) := fun p e s m args below meth c H locs ls C hP hD hS hl => va_iast C.1 C.2.1 C.2.2.2.2.2.2.2.2.1.2.2.2.2.2.1 hP hD hS q 0 he rfl (inb_in hi) d (fun H locs hP hD hS => kk p e s m args below meth c H locs ls C hP hD hS hl)
theorem h_gets {i t N : Nat} {nm host : String} {f : Nat → Int32} (hst : ∀ s : State, stK Z A s → StA nm t N f A s) (hk : ∀ s : State, stK Z A s → va_Nw (.fieldLinkNest M.2.1 i RX5 nm "[I" host) s) (d : decode M.1 pc = .ok (.getstatic i, 3)) (kk : Wk Z A M Qc mc ms k n ws (pc + 3) lv (.ref t :: st)) : Wk Z A M Qc mc ms k n ws pc lv st := fun p e s m args below meth c H locs ls C hP hD hS hl => va_getsN C.1 C.2.1 (hst s C.2.2.2.2.2.2.2.2.1).1 hS C.2.2.2.1 (va_Nw.use rfl (hk s C.2.2.2.2.2.2.2.2.1)) (fun _ h => h) d (kk p e s m args below meth c H locs ls C hP hD hS hl)
theorem h_cpT {i a q t N : Nat} {nm : String} {f g : Nat → Int32} {x : Int32} (hst : ∀ s : State, stK Z A s → StA nm t N f A s) (hk : Cond.methodLink M.2.1 i arraycopyName ∈ GT) (he : ws[q]? = some (a, .inl (cI Z, N, .inl g))) (hx : ¬ x < 0) (hN : x.toNatClampNeg = N) (hb : 1 ≤ (mR M).frames ∧ (st.map fun v => v.category).sum + (nativeFrameWords "java/lang/System" "arraycopy" 5 + 11) ≤ (mR M).locals) (d : decode M.1 pc = .ok (.invokestatic i, 3)) (kk : Wk Z A M Qc mc ms k n (ws.set q (a, .inl (cI Z, N, .inl (va_cpy f g 0 0 N)))) (pc + 3) lv st) : Wk Z A M Qc mc ms k n ws pc lv (.int x :: .int 0 :: .ref a :: .int 0 :: .ref t :: st) := by
  intro p e s m args below meth c H locs ls C hP hD hS hl T hT X
  have hxi : x.toInt = (x.toNatClampNeg : Int) := by
    have h0 := Int32.le_iff_toInt_le.mp (Int32.not_lt.mp hx)
    rw [show (0 : Int32).toInt = 0 from rfl] at h0
    show x.toInt = ((x.toInt.toNat : Nat) : Int)
    omega
  have h00 : (0 : Int32).toInt = 0 := rfl
  obtain ⟨scr, hs1, hs2, hs3, hs4, -, hs5, hs7⟩ := (hst s C.2.2.2.2.2.2.2.2.1).2
  have hbl : t < s.heap.size := (Array.getElem?_eq_some_iff.mp hs1).1
  have hc0 : H[t]? = some scr := by rw [hS.2.1 t hbl hs7]; exact hs1
  have hc1 : H[a]? = some (vp_cell (cI Z) (N, .inl g)) := hP q _ he
  obtain ⟨hs6, k0, hk0, cm0, hkk0⟩ := hs2
  obtain ⟨-, k1, hk1, cm1, hkk1⟩ := (C.2.2.2.2.2.2.2.2.1.2.2.2.2.2.1.2 0 _ rfl).1 N (fun j => .int (g j))
  obtain ⟨vm', X', step⟩ := X.arraycopy C.1 C.2.2.2.1 (C.2.2.2.2.1 _ hk) (C.2.2.2.2.1 _ kna_System_arraycopy) (C.2.2.2.2.1 _ kst_System_arraycopy) (C.2.2.2.2.1 _ kin_J10) (src := t) (dst := a) (cs := scr) (cd := vp_cell (cI Z) (N, .inl g)) (srcPos := 0) (destPos := 0) (n := x) (by rw [hT]; exact hc0) (by rw [hT]; exact hc1)
    hs6 (fun _ h => by cases h) hs3 (fun h => by cases h) hk0 hk1 hkk0 hkk1 (by simp [refKind]) (by decide) (by decide) hx
    (by rw [h00, hxi, hN]; omega)
    (by rw [h00, hxi, hN]; show ¬ _ > ((arrV (cI Z) N (fun j => .int (g j))).slots.size : Int); rw [arrV_size]; omega)
    (fun vm₁ _ j hj => by
      have hj' : j < N := by rw [hN] at hj; exact hj
      have e : scr.slots.getD ((0 : Int32).toNatClampNeg + j) .null = .int (f j) := by
        rw [show (0 : Int32).toNatClampNeg + j = j from Nat.zero_add j, Array.getD_eq_getD_getElem?, hs5 _ hj']
        rfl
      refine ⟨?_, ?_⟩
      · rw [e]
        rfl
      · rw [e]
        exact trivial)
    (g := F0 m pc ls (.int x :: .int 0 :: .ref a :: .int 0 :: .ref t :: st)) rfl (by show ls.size = _; rw [hl.1, C.2.2.1]) (rest := st) rfl (by rw [C.2.1]; exact d) hb.1 (by show 2 * 0 + _ + _ ≤ _; omega)
  have e1 : copied scr (vp_cell (cI Z) (N, .inl g)) 0 0 x = vp_cell (cI Z) (N, .inl (va_cpy f g 0 0 N)) := by
    have h : copied scr (vp_cell (cI Z) (N, .inl g)) 0 0 x = vp_cell (cI Z) (N, .inl (va_cpy f g (0 : Int32).toNatClampNeg (0 : Int32).toNatClampNeg x.toNatClampNeg)) := va_copiedX (fun z => .int z) scr (cI Z) f g hs5 (by show 0 + x.toNatClampNeg ≤ N; omega)
    rw [hN] at h
    exact h
  rw [e1] at X' step
  have hla : a < H.size := (Array.getElem?_eq_some_iff.mp hc1).1
  have oq : ∀ r : Nat, r ≠ a → (H.setIfInBounds a (vp_cell (cI Z) (N, .inl (va_cpy f g 0 0 N))))[r]? = H[r]? := fun r hr => by simp [Array.getElem?_setIfInBounds, Ne.symm hr]
  have hheap : ((T.setVm vm').setCell a (vp_cell (cI Z) (N, .inl (va_cpy f g 0 0 N)))).heap = H.setIfInBounds a (vp_cell (cI Z) (N, .inl (va_cpy f g 0 0 N))) := by rw [← hT]; rfl
  obtain ⟨t2, a1, b1⟩ := kk p e s m args below meth c _ _ ls C (hP.set hD he (show (H.setIfInBounds a _)[a]? = some _ by simp [Array.getElem?_setIfInBounds, hla]) oq) (hD.set he) ⟨by simp; exact hS.1, fun r g1 g2 => by
      rw [oq r (fun e => g2 (by rw [e]; exact hD.2 q _ he))]
      exact hS.2.1 r g1 g2, fun r hr => by
      rcases List.mem_append.mp hr with h | h
      · exact hS.2.2 r h
      · obtain ⟨z, -, hz⟩ := List.mem_map.mp h
        rw [← hz]
        exact hD.2 q _ he⟩ hl _ hheap X'
  exact ⟨t2, step t2 a1, b1⟩
theorem h_ws (ws' : va_W) (h : ws = ws') (kk : Wk Z A M Qc mc ms k n ws' pc lv st) : Wk Z A M Qc mc ms k n ws pc lv st := h ▸ kk
end KK2
set_option maxRecDepth 100000 in
set_option maxHeartbeats 4000000 in
theorem k_X1 (Z : CSp) (h0 : Nat) : MetK Z yX1_init cX1_init 1 { frames := 1, cells := 2, slots := 300, locals := 12 } h0 0 [.null, .int 0, .null, .int 0, .int 0, .int 0, .int 0, .int 0] (fun u => [(h0, .inr (0, [.ref (u.getD 0 0), .int 0, .ref (u.getD 1 0), .int 0, .int 0, .int 0, .int 0, .int 0])), (u.getD 0 0, .inl (cI Z, 150, .inl (fun _ => 0))), (u.getD 1 0, .inl (cI Z, 150, .inl (fun _ => 0)))]) 2 300 := by
  refine MetK_of (by decide) rfl (Nat.le_of_ble_eq_true rfl) (fun A => ?_)
  refine h_aload dX1_init_0 0 rfl ?_
  refine h_obj km_X1_3 ⟨Nat.le_of_ble_eq_true rfl, Nat.le_of_ble_eq_true rfl⟩ dX1_init_1 ?_
  refine h_aload dX1_init_4 0 rfl ?_
  refine h_sipush (x := 150) dX1_init_5 (by decide) ?_
  refine h_newa (N := 150) (by decide) (by decide) (by decide) (Nat.le_of_ble_eq_true rfl) (Nat.le_of_ble_eq_true rfl) dX1_init_8 (fun q1 => ?_)
  refine h_putF (j := 0) (ty := .array .int) FX1 tyX1_ok nmX1 kf_X1_9 0 rfl ⟨by decide, Nat.le_of_ble_eq_true rfl, rfl, rfl⟩ (by decide +kernel) rfl rfl dX1_init_10 ?_
  refine h_aload dX1_init_13 0 rfl ?_
  refine h_iconst (x := 0) dX1_init_14 (by decide) ?_
  refine h_put (j := 1) (ty := .int) FX1 tyX1_ok nmX1 kf_X1_15 0 rfl ⟨by decide, Nat.le_of_ble_eq_true rfl, rfl⟩ (by decide +kernel) rfl rfl dX1_init_15 ?_
  refine h_aload dX1_init_18 0 rfl ?_
  refine h_sipush (x := 150) dX1_init_19 (by decide) ?_
  refine h_newa (N := 150) (by decide) (by decide) (by decide) (Nat.le_of_ble_eq_true rfl) (Nat.le_of_ble_eq_true rfl) dX1_init_22 (fun q2 => ?_)
  refine h_putF (j := 2) (ty := .array .int) FX1 tyX1_ok nmX1 kf_X1_19 0 rfl ⟨by decide, Nat.le_of_ble_eq_true rfl, rfl, rfl⟩ (by decide +kernel) rfl rfl dX1_init_24 ?_
  refine h_aload dX1_init_27 0 rfl ?_
  refine h_iconst (x := 0) dX1_init_28 (by decide) ?_
  refine h_put (j := 4) (ty := .int) FX1 tyX1_ok nmX1 kf_X1_22 0 rfl ⟨by decide, Nat.le_of_ble_eq_true rfl, rfl⟩ (by decide +kernel) rfl rfl dX1_init_29 ?_
  exact h_ret [q1, q2] rfl ⟨rfl, rfl⟩ dX1_init_32
set_option maxRecDepth 100000 in
set_option maxHeartbeats 4000000 in
theorem k_X4 (Z : CSp) (h0 : Nat) : MetK Z yX4_init cX4_init 1 { frames := 1, cells := 3, slots := 393, locals := 40 } h0 2 [.int 0, .int 0, .null, .null, .null] (fun u => [(h0, .inr (2, [.int 3, .int 3, .ref (u.getD 0 0), .ref (u.getD 1 0), .ref (u.getD 2 0)])), (u.getD 0 0, .inl (cI Z, 3, .inl (va_cpy fWaves (fun _ => 0) 0 0 3))), (u.getD 1 0, .inl (cI Z, 6, .inl (va_cpy fSets (fun _ => 0) 0 0 6))), (u.getD 2 0, .inl (cI Z, 384, .inl (fun _ => 0)))]) 3 393 := by
  refine MetK_of (by decide) rfl (Nat.le_of_ble_eq_true rfl) (fun A => ?_)
  refine h_aload dX4_init_0 0 rfl ?_
  refine h_obj km_X4_3 ⟨Nat.le_of_ble_eq_true rfl, Nat.le_of_ble_eq_true rfl⟩ dX4_init_1 ?_
  refine h_aload dX4_init_4 0 rfl ?_
  refine h_iconst (x := 3) dX4_init_5 (by decide) ?_
  refine h_put (j := 0) (ty := .int) FX4 tyX4_ok nmX4 kf_X4_9 0 rfl ⟨by decide, Nat.le_of_ble_eq_true rfl, rfl⟩ (by decide +kernel) rfl rfl dX4_init_6 ?_
  refine h_aload dX4_init_9 0 rfl ?_
  refine h_iconst (x := 3) dX4_init_10 (by decide) ?_
  refine h_put (j := 1) (ty := .int) FX4 tyX4_ok nmX4 kf_X4_15 0 rfl ⟨by decide, Nat.le_of_ble_eq_true rfl, rfl⟩ (by decide +kernel) rfl rfl dX4_init_11 ?_
  refine h_aload dX4_init_14 0 rfl ?_
  refine h_iconst (x := 3) dX4_init_15 (by decide) ?_
  refine h_newa (N := 3) (by decide) (by decide) (by decide) (Nat.le_of_ble_eq_true rfl) (Nat.le_of_ble_eq_true rfl) dX4_init_16 (fun q1 => ?_)
  refine h_putF (j := 2) (ty := .array .int) FX4 tyX4_ok nmX4 kf_X4_18 0 rfl ⟨by decide, Nat.le_of_ble_eq_true rfl, rfl, rfl⟩ (by decide +kernel) rfl rfl dX4_init_18 ?_
  refine h_aload dX4_init_21 0 rfl ?_
  refine h_bipush (x := 6) dX4_init_22 (by decide) ?_
  refine h_newa (N := 6) (by decide) (by decide) (by decide) (Nat.le_of_ble_eq_true rfl) (Nat.le_of_ble_eq_true rfl) dX4_init_24 (fun q2 => ?_)
  refine h_putF (j := 3) (ty := .array .int) FX4 tyX4_ok nmX4 kf_X4_22 0 rfl ⟨by decide, Nat.le_of_ble_eq_true rfl, rfl, rfl⟩ (by decide +kernel) rfl rfl dX4_init_26 ?_
  refine h_aload dX4_init_29 0 rfl ?_
  refine h_sipush (x := 384) dX4_init_30 (by decide) ?_
  refine h_newa (N := 384) (by decide) (by decide) (by decide) (Nat.le_of_ble_eq_true rfl) (Nat.le_of_ble_eq_true rfl) dX4_init_33 (fun q3 => ?_)
  refine h_putF (j := 4) (ty := .array .int) FX4 tyX4_ok nmX4 kf_X4_25 0 rfl ⟨by decide, Nat.le_of_ble_eq_true rfl, rfl, rfl⟩ (by decide +kernel) rfl rfl dX4_init_35 ?_
  refine h_gets (nm := "FIRST_WAVES") (fun s h => h.1) (fun s h => h.2.2.1) dX4_init_38 ?_
  refine h_iconst (x := 0) dX4_init_41 (by decide) ?_
  refine h_aload dX4_init_42 0 rfl ?_
  refine h_get FX4 2 (by decide) kf_X4_18 0 rfl rfl dX4_init_43 ?_
  refine h_iconst (x := 0) dX4_init_46 (by decide) ?_
  refine h_iconst (x := 3) dX4_init_47 (by decide) ?_
  refine h_cpT (q := 1) (fun s h => h.1) km_X4_31 rfl (by decide) (by decide) ⟨Nat.le_of_ble_eq_true rfl, by decide +kernel⟩ dX4_init_48 ?_
  refine h_gets (nm := "FIRST_SETTINGS") (fun s h => h.2.1) (fun s h => h.2.2.2.1) dX4_init_51 ?_
  refine h_iconst (x := 0) dX4_init_54 (by decide) ?_
  refine h_aload dX4_init_55 0 rfl ?_
  refine h_get FX4 3 (by decide) kf_X4_22 0 rfl rfl dX4_init_56 ?_
  refine h_iconst (x := 0) dX4_init_59 (by decide) ?_
  refine h_bipush (x := 6) dX4_init_60 (by decide) ?_
  refine h_cpT (q := 2) (fun s h => h.2.1) km_X4_31 rfl (by decide) (by decide) ⟨Nat.le_of_ble_eq_true rfl, by decide +kernel⟩ dX4_init_62 ?_
  exact h_ret [q1, q2, q3] rfl ⟨rfl, rfl⟩ dX4_init_65
