set_option maxRecDepth 100000 in
set_option maxHeartbeats 4000000 in
theorem atK5 (Z : CSp) (h0 : Nat) (u : List Nat) : ∀ k, k < 38 → ∃ (i : Nat) (e : va_E), (csK5 Z h0 u)[i]? = some (aC (zC Z h0 u) k, e) := by
  intro k hk
  rcases (by omega : k = 0 ∨ k = 1 ∨ k = 2 ∨ k = 3 ∨ k = 4 ∨ k = 5 ∨ k = 6 ∨ k = 7 ∨ k = 8 ∨ k = 9 ∨ k = 10 ∨ k = 11 ∨ k = 12 ∨ k = 13 ∨ k = 14 ∨ k = 15 ∨ k = 16 ∨ k = 17 ∨ k = 18 ∨ k = 19 ∨ k = 20 ∨ k = 21 ∨ k = 22 ∨ k = 23 ∨ k = 24 ∨ k = 25 ∨ k = 26 ∨ k = 27 ∨ k = 28 ∨ k = 29 ∨ k = 30 ∨ k = 31 ∨ k = 32 ∨ k = 33 ∨ k = 34 ∨ k = 35 ∨ k = 36 ∨ k = 37) with rfl | rfl | rfl | rfl | rfl | rfl | rfl | rfl | rfl | rfl | rfl | rfl | rfl | rfl | rfl | rfl | rfl | rfl | rfl | rfl | rfl | rfl | rfl | rfl | rfl | rfl | rfl | rfl | rfl | rfl | rfl | rfl | rfl | rfl | rfl | rfl | rfl | rfl
  · exact ⟨permC.getD 0 0, _, rfl⟩
  · exact ⟨permC.getD 1 0, _, rfl⟩
  · exact ⟨permC.getD 2 0, _, rfl⟩
  · exact ⟨permC.getD 3 0, _, rfl⟩
  · exact ⟨permC.getD 4 0, _, rfl⟩
  · exact ⟨permC.getD 5 0, _, rfl⟩
  · exact ⟨permC.getD 6 0, _, rfl⟩
  · exact ⟨permC.getD 7 0, _, rfl⟩
  · exact ⟨permC.getD 8 0, _, rfl⟩
  · exact ⟨permC.getD 9 0, _, rfl⟩
  · exact ⟨permC.getD 10 0, _, rfl⟩
  · exact ⟨permC.getD 11 0, _, rfl⟩
  · exact ⟨permC.getD 12 0, _, rfl⟩
  · exact ⟨permC.getD 13 0, _, rfl⟩
  · exact ⟨permC.getD 14 0, _, rfl⟩
  · exact ⟨permC.getD 15 0, _, rfl⟩
  · exact ⟨permC.getD 16 0, _, rfl⟩
  · exact ⟨permC.getD 17 0, _, rfl⟩
  · exact ⟨permC.getD 18 0, _, rfl⟩
  · exact ⟨permC.getD 19 0, _, rfl⟩
  · exact ⟨permC.getD 20 0, _, rfl⟩
  · exact ⟨permC.getD 21 0, _, rfl⟩
  · exact ⟨permC.getD 22 0, _, rfl⟩
  · exact ⟨permC.getD 23 0, _, rfl⟩
  · exact ⟨permC.getD 24 0, _, rfl⟩
  · exact ⟨permC.getD 25 0, _, rfl⟩
  · exact ⟨permC.getD 26 0, _, rfl⟩
  · exact ⟨permC.getD 27 0, _, rfl⟩
  · exact ⟨permC.getD 28 0, _, rfl⟩
  · exact ⟨permC.getD 29 0, _, rfl⟩
  · exact ⟨permC.getD 30 0, _, rfl⟩
  · exact ⟨permC.getD 31 0, _, rfl⟩
  · exact ⟨permC.getD 32 0, _, rfl⟩
  · exact ⟨permC.getD 33 0, _, rfl⟩
  · exact ⟨permC.getD 34 0, _, rfl⟩
  · exact ⟨permC.getD 35 0, _, rfl⟩
  · exact ⟨permC.getD 36 0, _, rfl⟩
  · exact ⟨permC.getD 37 0, _, rfl⟩
set_option maxRecDepth 100000 in
set_option maxHeartbeats 4000000 in
theorem whole_start {p : Program} {e : Env} {s : State} {m : MethodId} {below : List Frame} {meth : Method} {c : Code} (l : Launch) (hflags : l.flags = flags0) {b L : Nat} {xs : Nat → Int32} (hL : L ≤ 3584) (C0 : lw_At p s m meth c b L xs) : W p l e room_1 s m #[Value.ref b] below meth c s.heap [] 0 0 (lw_Z below #[Value.ref b] s) (entryFrame m ([Value.ref b] : List Value).toArray 4) := by
  obtain ⟨hx, hb, hr, hml, hown, hts, hX, hbl, hlocks, hgv⟩ := C0
  obtain ⟨D, c1, c2, tc, hst⟩ := ent_st (l := l) hts hgv
  have hg : ∀ w ∈ GT, w.before #[Value.ref b] s = true := fun w h => hts w (gt_sub h)
  have hl := lv_entry ([.ref b]) (n := 4) (Nat.le_of_ble_eq_true rfl)
  rw [lg_entry_eq]
  generalize (lg_sl ([.ref b]) ++ List.replicate (4 - (lg_sl ([.ref b])).length) Slot.unset).toArray = ls at hl ⊢
  have hl : lv_has ls 4 [(0, .ref b)] := hl
  refine j_make (Z := (l, D, c1, c2, (fun _ => 0), tc)) (ws := []) (cs := csK5 (l, D, c1, c2, (fun _ => 0), tc)) (own := RL) hx hb hml hown hg (hst _).1 (fun k q h => by simp at h) ⟨fun i j p q h => by simp at h, fun k q h => by simp at h⟩ va_S.rf hl.1 FX5 tyX5_ok kcl_L_7 kia_X5 kin_X5 (by decide) (fun q => k_X5 _ q) ⟨rfl, rfl, rfl, rfl⟩ kc_X5_init ki_X5_init km_L_9 (by decide +kernel) ⟨Nat.le_of_ble_eq_true rfl, Nat.le_of_ble_eq_true rfl⟩ ⟨Nat.le_of_ble_eq_true rfl, Nat.le_of_ble_eq_true rfl⟩ (fun q => Nat.le_of_ble_eq_true rfl) dL_law_0 dL_law_3 dL_law_4 (fun q u H locs hP hD hS => ?_)
  refine lv_astore_n (lv' := [(1, .ref q), (0, .ref b)]) hx hb dL_law_7 rfl hl (by decide) rfl (fun ls hl => ?_)
  refine j_make (Z := (l, D, c1, c2, (fun _ => 0), tc)) (ws := csK5 (l, D, c1, c2, (fun _ => 0), tc) q u) (cs := csK6 (l, D, c1, c2, (fun _ => 0), tc)) (own := RL) hx hb hml hown hg (hst _).1 hP hD hS hl.1 FX6 tyX6_ok kcl_L_10 kia_X6 kin_X6 (by decide) (fun q => k_X6 _ q) ⟨rfl, rfl, rfl, rfl⟩ kc_X6_init ki_X6_init km_L_12 (by decide +kernel) ⟨Nat.le_of_ble_eq_true rfl, Nat.le_of_ble_eq_true rfl⟩ ⟨Nat.le_of_ble_eq_true rfl, Nat.le_of_ble_eq_true rfl⟩ (fun q => Nat.le_of_ble_eq_true rfl) dL_law_8 dL_law_11 dL_law_12 (fun q' u' H locs hP hD hS => ?_)
  refine lv_astore_n (lv' := [(2, .ref q'), (1, .ref q), (0, .ref b)]) hx hb dL_law_15 rfl hl (by decide) rfl (fun ls hl => ?_)
  refine lv_iconst (v := 0) hx hb dL_law_16 (by decide) ?_
  refine lv_istore_n (lv' := [(3, .int 0), (2, .ref q'), (1, .ref q), (0, .ref b)]) hx hb dL_law_17 rfl hl (by decide) rfl (fun ls hl => ?_)
  obtain ⟨⟨hP5, hD5⟩, hP6, hD6⟩ := app_l hP hD
  obtain ⟨hPC, hDC⟩ := toC hP5 hD5
  rw [toM] at hP6 hD6
  obtain ⟨r1, r2⟩ := rg_C hDC
  obtain ⟨r3, r4⟩ := rg_M hD6
  refine law_loop (ZC := zC (l, D, c1, c2, (fun _ => 0), tc) q u) (ZM := zM (l, D, c1, c2, (fun _ => 0), tc) q' u') hL (L + 8) 0 w0 v0 Sim_first (by omega) (by omega) p e s m below meth c H locs ls ⟨hx, hb, hml, hown, hg, hr, hlocks, hX, hbl, (hst _).1.2.2.2.2.2.1, (hst _).2, rfl, rfl, rfl, rfl, r1, r3, ?_⟩ hPC r2 hP6 r4 hS (lv_sub hl [3, 2, 1, 0] rfl)
  intro x hx1 hx2
  obtain ⟨k, hk, e1⟩ := hx1
  obtain ⟨j, hj, e2⟩ := hx2
  obtain ⟨i1, t1, ha⟩ := atK5 (l, D, c1, c2, (fun _ => 0), tc) q u k hk
  obtain ⟨t2, hb2⟩ := atM (zM (l, D, c1, c2, (fun _ => 0), tc) q' u') v0 j hj
  rw [← toM] at hb2
  exact mem_apart hD ha hb2 (e1.symm.trans e2)
