set_option maxRecDepth 100000 in
set_option maxHeartbeats 4000000 in
theorem whole_start {p : Program} {e : Env} {s : State} {m : MethodId} {below : List Frame} {meth : Method} {c : Code} (l : Launch) (hflags : l.flags = flags0) {b L : Nat} {xs : Nat → Int32} (hL : L ≤ 3584) (C0 : lw_At p s m meth c b L xs) : W p l e room_1 s m #[Value.ref b] below meth c s.heap [] 0 0 (lw_Z below #[Value.ref b] s) (entryFrame m ([Value.ref b] : List Value).toArray 4) := by
  obtain ⟨hx, hb, hr, hml, hown, hts, hX, hbl, hlocks, hgv⟩ := C0
  obtain ⟨D, c1, c2, tc, hst⟩ := ent_st (l := l) hts hgv
  have hg : ∀ w ∈ GT, w.before #[Value.ref b] s = true := fun w h => hts w (gt_sub h)
  have hl := lv_entry ([.ref b]) (n := 4) (Nat.le_of_ble_eq_true rfl)
  rw [lg_entry_eq]
  generalize (lg_sl ([.ref b]) ++ List.replicate (4 - (lg_sl ([.ref b])).length) Slot.unset).toArray = ls at hl ⊢
  have hl : lv_has ls 4 [(0, .ref b)] := hl
  refine j_make (Z := (l, D, c1, c2, (fun _ => 0), tc)) (ws := []) (cs := csK5 (l, D, c1, c2, (fun _ => 0), tc)) (own := RL) hx hb hml hown hg (hst _).1 (fun k q h => by simp at h) ⟨fun i j p q h => by simp at h, fun k q h => by simp at h⟩ va_S.rf hl.1 FX5 tyX5_ok kcl_L_7 kia_X5 kin_X5 (by decide) (fun q => k_X5 _ q) ⟨rfl, rfl, rfl, rfl⟩ kc_X5_init ki_X5_init km_L_9 (by decide +kernel) ⟨Nat.le_of_ble_eq_true rfl, Nat.le_of_ble_eq_true rfl⟩ ⟨Nat.le_of_ble_eq_true rfl, Nat.le_of_ble_eq_true rfl⟩ (fun q => Nat.le_of_ble_eq_true rfl) dL_law_0 dL_law_3 dL_law_4 (fun q u H locs hP hD hS => ?_)
  refine lv_astore_n (lv' := [(1, .ref q), (0, .ref b)]) hx hb dL_law_7 rfl hl (by decide) rfl (fun ls hl => ?_)
  refine j_make (Z := (l, D, c1, c2, (fun _ => 0), tc)) (ws := csK5 (l, D, c1, c2, (fun _ => 0), tc) q u) (cs := csK6 (l, D, c1, c2, (fun _ => 0), tc)) (own := RL) hx hb hml hown hg (hst _).1 hP hD hS hl.1 FX6 tyX6_ok kcl_L_10 kia_X6 kin_X6 (by decide) (fun q => k_X6 _ q) ⟨rfl, rfl, rfl, rfl⟩ kc_X6_init ki_X6_init km_L_12 (by decide +kernel) ⟨Nat.le_of_ble_eq_true rfl, Nat.le_of_ble_eq_true rfl⟩ ⟨Nat.le_of_ble_eq_true rfl, Nat.le_of_ble_eq_true rfl⟩ (fun q => Nat.le_of_ble_eq_true rfl) dL_law_8 dL_law_11 dL_law_12 (fun q' u' H locs hP hD hS => ?_)
  refine lv_astore_n (lv' := [(2, .ref q'), (1, .ref q), (0, .ref b)]) hx hb dL_law_15 rfl hl (by decide) rfl (fun ls hl => ?_)
  refine lv_iconst (v := 0) hx hb dL_law_16 (by decide) ?_
  refine lv_istore_n (lv' := [(3, .int 0), (2, .ref q'), (1, .ref q), (0, .ref b)]) hx hb dL_law_17 rfl hl (by decide) rfl (fun ls hl => ?_)
  obtain ⟨⟨hP5, hD5⟩, hP6, hD6⟩ := app_l hP hD
  obtain ⟨hPC, hDC⟩ := toC hP5 hD5
  rw [toM] at hP6 hD6
  obtain ⟨r1, r2⟩ := rg_C hDC
  obtain ⟨r3, r4⟩ := rg_M hD6
  refine law_loop (ZC := zC (l, D, c1, c2, (fun _ => 0), tc) q u) (ZM := zM (l, D, c1, c2, (fun _ => 0), tc) q' u') hL (L + 8) 0 w0 v0 Sim_first (by omega) (by omega) p e s m below meth c H locs ls ⟨hx, hb, hml, hown, hg, hr, hlocks, hX, hbl, (hst _).1.2.2.2.2.2.1, (hst _).2, rfl, rfl, rfl, rfl, r1, r3, ?_⟩ hPC r2 hP6 r4 hS (lv_sub hl [3, 2, 1, 0] rfl)
  intro x hx1 hx2
  obtain ⟨k, hk, e1⟩ := hx1
  obtain ⟨j, hj, e2⟩ := hx2
  sorry
