/-! CONSTRUCTORS: new objects, calls of constructors -/
theorem StA.nar {nm : String} {t N : Nat} {f : Nat → Int32} {A B : Nat → Prop} {U : State} (h : StA nm t N f A U) (hAB : ∀ q, B q → A q) : StA nm t N f B U := ⟨h.1.narrow hAB, h.2.narrow hAB⟩
theorem stK_go {Z : CSp} {A B : Nat → Prop} {s U : State} {H : Heap} {locs : List Loc} (h : stK Z A s) (hS : va_S A s.heap H locs) (hU : U.heap = H) (hW : s.WarmedH U.vm) (hAB : ∀ q, B q → A q) : stK Z B U := by
  obtain ⟨h1, h2, h3, h4, h5, h6, h7, h8⟩ := h
  exact ⟨(h1.go hS hU hW).nar hAB, (h2.go hS hU hW).nar hAB, h3.warmF hW, h4.warmF hW, by rw [hW.alike.findClass]; exact h5, va_K.moved hW.alike h6, h7.warmM hW, va_AO.moved hW.alike h8⟩
theorem stK_call {Z : CSp} {A : Nat → Prop} {U : State} (h : stK Z A U) (g : JFrame) (mk : MethodId) (a : Array Value) : stK Z A (U.calling g mk a) := by
  obtain ⟨h1, h2, h3, h4, h5, h6, h7, h8⟩ := h
  exact ⟨h1.call g mk a, h2.call g mk a, h3.same (U := U.calling g mk a) rfl rfl, h4.same (U := U.calling g mk a) rfl rfl, h5, va_K.moved (u := U) (U := U.calling g mk a) (Vm.Alike.refl U.vm) h6, h7.same (U := U.calling g mk a) rfl rfl, h8⟩
section KK3
variable {Z : CSp} {A : Nat → Prop} {M : Mt} {Qc : Array Value → State → Outcome → State → Prop} {mc ms k n : Nat} {ws : va_W} {pc : Nat} {lv : List (Nat × Value)} {st : List Value}
theorem h_new {C₀ : String} {T : u_T} {N ci i : Nat} {fs : List Value} {ty0 : Nat → FieldType} (F : FC ci C₀ T N) (hty : ∀ k, k < N → parseFieldDescriptor (T k).2.2.1 = some (ty0 k)) (hcl : Cond.classLink M.2.1 i C₀ ∈ GT) (hin : Cond.instantiable C₀ N ∈ GT) (hini : Cond.initialized C₀ ∈ GT) (hfs : ∀ j, j < N → defaultValue (ty0 j) = vp_V fs j) (hc : k + 1 ≤ (mR M).cells) (hs : n + N ≤ (mR M).slots) (d : decode M.1 pc = .ok (.new i, 3)) (kk : ∀ q : Nat, Wk Z A M Qc mc ms (k + 1) (n + N) (ws ++ [(q, .inr (ci, fs))]) (pc + 3) lv (.ref q :: st)) : Wk Z A M Qc mc ms k n ws pc lv st := fun p e s m args below meth c H locs ls C hP hD hS hl => va_new C.1 C.2.1 C.2.2.2.2.1 F.2 ty0 hty C.2.2.2.1 (C.2.2.2.2.1 _ hcl) (C.2.2.2.2.1 _ hin) (C.2.2.2.2.1 _ hini) C.2.2.2.2.2.2.2.2.1.2.2.2.2.2.1 hP hD hS C.2.2.2.2.2.2.2.2.2 F.1 hfs hc hs d (fun q H hP hD hS => kk q p e s m args below meth c H locs ls C hP hD hS hl)
theorem h_call {y : MethodName} {cc : ByteArray} {maxL : Nat} {rm : Room} {h0 ci i mc1 ms1 : Nat} {fs : List Value} {cs : List Nat → va_W} {wr : va_W} (hM : MetK Z y cc maxL rm h0 ci fs cs mc1 ms1) (hrc : rm.cells = mc1 ∧ rm.slots = ms1 ∧ y.name = "<init>") (hcode : Cond.code y cc maxL none ∈ GT) (hini : Cond.initialized y.cls ∈ GT) (hinst : Cond.instanceMethod y ∈ GT) (hk : Cond.methodLink M.2.1 i y ∈ GT) (hd : y.cls ≠ "java/lang/invoke/MethodHandle" ∧ y.cls ≠ "java/lang/invoke/VarHandle" ∧ (parseMethodDescriptor y.desc).map (fun d => d.parameters.length) = some 0) (hR : rm.frames + 1 ≤ (mR M).frames ∧ 8 + (maxL + 11) + rm.locals ≤ (mR M).locals) (hcs : k + mc1 ≤ (mR M).cells ∧ n + ms1 ≤ (mR M).slots) (isC isR : List Nat) (hC : isC.map (fun i => ws[i]?) = [(h0, .inr (ci, fs))].map some) (hRr : isR.map (fun i => ws[i]?) = wr.map some) (hnd : va_nd isR = true) (hdis : ∀ i ∈ isR, i ∉ isC) (hcat : (st.map fun v => v.category).sum ≤ 8) (d : decode M.1 pc = .ok (.invokespecial i, 3)) (kk : ∀ u : List Nat, Wk Z A M Qc mc ms (k + mc1) (n + ms1) (wr ++ cs u) (pc + 3) lv st) : Wk Z A M Qc mc ms k n ws pc lv (.ref h0 :: st) := by
  intro p e s m args below meth c H locs ls C hP hD hS hl
  have hA := C.2.2.2.2.2.2.2.2.2
  have hFc := va_free (wc := [(h0, .inr (ci, fs))]) hD hS hA isC hC
  have hP0 : va_P Z.2.1 CL [(h0, .inr (ci, fs))] H := by
    intro j y hy
    have h1 : (isC.map (fun i => ws[i]?))[j]? = some (some y) := by rw [hC, List.getElem?_map, hy]; rfl
    rw [List.getElem?_map] at h1
    obtain ⟨x, hx, hx2⟩ := Option.map_eq_some_iff.mp h1
    exact hP x y hx2
  refine va_callv (va_runI (As := []) (rest := st) ⟨C.1, C.2.1, C.2.2.1, C.2.2.2.1, C.2.2.2.2.1⟩ (hM H.size) ⟨callB_of 0 C.2.2.2.2.1 (gt_in hcode) rfl hrc.1 hrc.2.1 (C.2.2.2.2.1 _ hini) (C.2.2.2.2.1 _ hk) hd hR, hrc.2.2, C.2.2.2.2.1 _ hinst⟩ ⟨fun a U g mk q => by obtain ⟨q0, q1, q2, q3⟩ := q; exact ⟨q0, q1, stK_call q2 g mk a, q3⟩, fun U hU hW => ⟨rfl, by rw [hU], stK_go C.2.2.2.2.2.2.2.2.1 hS hU hW hFc, by rw [hU]; exact hP0⟩⟩ rfl rfl hl.1 rfl (lv_room hcat) d hcs) hS (fun q _ h => hFc q h) hFc (fun u t H1 locs ht hvm hw hB hz1 hk1 hS => ?_)
  obtain ⟨hP1, hD1⟩ := hB
  rw [ht] at hP1
  obtain ⟨hP2, hD2⟩ := va_join (wr := wr) (w1 := cs u) hP hD isC isR hC hRr hnd hdis hk1 hFc hP1 hD1
  exact kk u p e s m args below meth c H1 locs ls C hP2 hD2 hS hl
end KK3
