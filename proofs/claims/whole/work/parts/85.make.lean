/-! THE LAW'S ENTRY: an object made -/
theorem nd_r : ∀ (n a : Nat), va_nd (List.range' a n) = true
  | 0, _ => rfl
  | n + 1, a => by
    show (decide (a ∉ List.range' (a + 1) n) && va_nd (List.range' (a + 1) n)) = true
    rw [nd_r n (a + 1), Bool.and_true, decide_eq_true_eq, List.mem_range'_1]
    omega
theorem nd_range (n : Nat) : va_nd (List.range n) = true := by rw [List.range_eq_range']; exact nd_r n 0
theorem j_make {Z : CSp} {p : Program} {e : Env} {R : Room} {s : State} {m : MethodId} {args : Array Value} {below : List Frame} {meth : Method} {c : Code} {H : Heap} {locs : List Loc} {k n : Nat} {Q : State → Prop} {own : String} {cc : ByteArray} {nL pc : Nat} {ls : Array Slot} {st : List Value} {ws : va_W} {y : MethodName} {cy : ByteArray} {maxL : Nat} {rm : Room} {ci mc1 ms1 i j N : Nat} {fs : List Value} {C₀ : String} {T : u_T} {ty0 : Nat → FieldType} {cs : Nat → List Nat → va_W}
    (hx : p.tables.exec = Jvm.exec) (hb : c.code = cc) (hml : c.maxLocals = nL) (hown : s.vm.findClass own = some m.cls) (hts : ∀ w ∈ GT, w.before args s = true) (hSt : stK Z (aL s) s) (hP : va_P Z.2.1 CL ws H) (hD : va_D (aL s) ws) (hS : va_S (aL s) s.heap H locs) (hl : ls.size = nL)
    (F : FC ci C₀ T N) (hty : ∀ k, k < N → parseFieldDescriptor (T k).2.2.1 = some (ty0 k)) (hcl : Cond.classLink own i C₀ ∈ GT) (hin : Cond.instantiable C₀ N ∈ GT) (hini : Cond.initialized C₀ ∈ GT) (hfs : ∀ j, j < N → defaultValue (ty0 j) = vp_V fs j) (hM : ∀ q, MetK Z y cy maxL rm q ci fs (cs q) mc1 ms1) (hrc : rm.cells = mc1 ∧ rm.slots = ms1 ∧ y.name = "<init>" ∧ y.cls = C₀) (hcode : Cond.code y cy maxL none ∈ GT) (hinst : Cond.instanceMethod y ∈ GT) (hk : Cond.methodLink own j y ∈ GT) (hd : y.cls ≠ "java/lang/invoke/MethodHandle" ∧ y.cls ≠ "java/lang/invoke/VarHandle" ∧ (parseMethodDescriptor y.desc).map (fun d => d.parameters.length) = some 0) (hR : rm.frames + 1 ≤ R.frames ∧ 8 + (maxL + 11) + rm.locals ≤ R.locals) (hcs : k + 1 + mc1 ≤ R.cells ∧ n + N + ms1 ≤ R.slots) (hcat : ∀ q : Nat, ((Value.ref q :: st).map fun v => v.category).sum ≤ 8)
    (d0 : decode cc pc = .ok (.new i, 3)) (d1 : decode cc (pc + 3) = .ok (.dup, 1)) (d2 : decode cc (pc + 3 + 1) = .ok (.invokespecial j, 3))
    (kk : ∀ (q : Nat) (u : List Nat) (H1 : Heap) (locs1 : List Loc), va_P Z.2.1 CL (ws ++ cs q u) H1 → va_D (aL s) (ws ++ cs q u) → va_S (aL s) s.heap H1 locs1 → W p Z.1 e R s m args below meth c H1 locs1 (k + 1 + mc1) (n + N + ms1) Q (F0 m (pc + 3 + 1 + 3) ls (.ref q :: st))) : W p Z.1 e R s m args below meth c H locs k n Q (F0 m pc ls st) := by
  have hA : ∀ q, s.heap.size ≤ q → aL s q := fun _ h => h
  refine va_new hx hb hts F.2 ty0 hty hown (hts _ hcl) (hts _ hin) (hts _ hini) hSt.2.2.2.2.2.1 hP hD hS hA F.1 hfs (by omega) (by omega) d0 (fun q H hP hD hS => ?_)
  refine lv_dup hx hb d1 rfl ?_
  have hC : [ws.length].map (fun i => (ws ++ [(q, Sum.inr (ci, fs))])[i]?) = [(q, (Sum.inr (ci, fs) : va_E))].map some := by simp
  have hRr : (List.range ws.length).map (fun i => (ws ++ [(q, (Sum.inr (ci, fs) : va_E))])[i]?) = ws.map some := by
    apply List.ext_getElem?
    intro a
    rw [List.getElem?_map, List.getElem?_map]
    by_cases ha : a < ws.length
    · rw [List.getElem?_range ha, Option.map_some, List.getElem?_append_left ha, List.getElem?_eq_getElem ha]
      rfl
    · rw [List.getElem?_eq_none (by simpa using ha), List.getElem?_eq_none (by omega)]
      rfl
  have hFc := va_free (wc := [(q, .inr (ci, fs))]) hD hS hA [ws.length] hC
  have hP0 : va_P Z.2.1 CL [(q, .inr (ci, fs))] H := by
    intro a x hx
    have ha : a = 0 := by
      rcases Nat.eq_zero_or_pos a with z | z
      · exact z
      · rw [List.getElem?_eq_none (show 1 ≤ _ from z)] at hx; cases hx
    subst ha
    cases hx
    exact hP ws.length _ (by simp)
  refine va_callv (va_runI (As := []) (rest := .ref q :: st) ⟨hx, hb, hml, hown, hts⟩ (hM q H.size) ⟨callB_of 0 hts (gt_in hcode) rfl hrc.1 hrc.2.1 (hrc.2.2.2 ▸ hts _ hini) (hts _ hk) hd hR, hrc.2.2.1, hts _ hinst⟩ ⟨fun a U g mk q => by obtain ⟨q0, q1, q2, q3⟩ := q; exact ⟨q0, q1, stK_call q2 g mk a, q3⟩, fun U hU hW => ⟨rfl, by rw [hU], stK_go hSt hS hU hW hFc, by rw [hU]; exact hP0⟩⟩ rfl rfl hl rfl (lv_room (hcat q)) d2 hcs) hS (fun q _ h => hFc q h) hFc (fun u t H1 locs ht hvm hw hB hz1 hk1 hS => ?_)
  obtain ⟨hP1, hD1⟩ := hB
  rw [ht] at hP1
  obtain ⟨hP2, hD2⟩ := va_join (wr := ws) (w1 := cs q u) hP hD [ws.length] (List.range ws.length) hC hRr (nd_range _) (fun i hi => by simp at hi ⊢; omega) hk1 hFc hP1 hD1
  exact kk q u H1 locs hP2 hD2 hS
